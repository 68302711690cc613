section
-- ===== PART A: goes FIRST, ahead of the names: the tables' words, and 'selects' of the private methods out of them =====
/-- a private method of a class that the tables say can be made, by its rows of tables_1 -/
def lw_okq (q : MethodName × Nat) : Prop := (q.1.cls ≠ "java/lang/invoke/MethodHandle" ∧ q.1.cls ≠ "java/lang/invoke/VarHandle") ∧ Cond.instantiable q.1.cls q.2 ∈ tables_1 ∧ Cond.privateMethod q.1 ∈ tables_1 ∧ Cond.instanceMethod q.1 ∈ tables_1
theorem lw_p0 : lw_okq (⟨"SecondChances", "nightChanged", "()V"⟩, 11) := ⟨⟨by decide +kernel, by decide +kernel⟩, List.mem_of_getElem? (i := 15) (by decide +kernel), List.mem_of_getElem? (i := 328) (by decide +kernel), List.mem_of_getElem? (i := 329) (by decide +kernel)⟩
theorem lw_p1 : lw_okq (⟨"SecondChances$DeedList", "goesOn", "(I)Z"⟩, 11) := ⟨⟨by decide +kernel, by decide +kernel⟩, List.mem_of_getElem? (i := 35) (by decide +kernel), List.mem_of_getElem? (i := 336) (by decide +kernel), List.mem_of_getElem? (i := 337) (by decide +kernel)⟩
theorem lw_p2 : lw_okq (⟨"SecondChances$DeedList", "takeInto", "([II)Z"⟩, 11) := ⟨⟨by decide +kernel, by decide +kernel⟩, List.mem_of_getElem? (i := 35) (by decide +kernel), List.mem_of_getElem? (i := 343) (by decide +kernel), List.mem_of_getElem? (i := 344) (by decide +kernel)⟩
theorem lw_p3 : lw_okq (⟨"SecondChances$DeedList", "takeWho", "(I)Z"⟩, 11) := ⟨⟨by decide +kernel, by decide +kernel⟩, List.mem_of_getElem? (i := 35) (by decide +kernel), List.mem_of_getElem? (i := 350) (by decide +kernel), List.mem_of_getElem? (i := 351) (by decide +kernel)⟩
theorem lw_p4 : lw_okq (⟨"SecondChances$RuleBook", "goesOn", "(I)Z"⟩, 10) := ⟨⟨by decide +kernel, by decide +kernel⟩, List.mem_of_getElem? (i := 91) (by decide +kernel), List.mem_of_getElem? (i := 362) (by decide +kernel), List.mem_of_getElem? (i := 363) (by decide +kernel)⟩
theorem lw_p5 : lw_okq (⟨"SecondChances$RuleBook", "takeKind", "(I)Z"⟩, 10) := ⟨⟨by decide +kernel, by decide +kernel⟩, List.mem_of_getElem? (i := 91) (by decide +kernel), List.mem_of_getElem? (i := 367) (by decide +kernel), List.mem_of_getElem? (i := 368) (by decide +kernel)⟩
theorem lw_p6 : lw_okq (⟨"SecondChances$RuleBook", "takeMany", "(I)Z"⟩, 10) := ⟨⟨by decide +kernel, by decide +kernel⟩, List.mem_of_getElem? (i := 91) (by decide +kernel), List.mem_of_getElem? (i := 372) (by decide +kernel), List.mem_of_getElem? (i := 373) (by decide +kernel)⟩
theorem lw_p7 : lw_okq (⟨"SecondChances$RuleBook", "say", "(II)V"⟩, 10) := ⟨⟨by decide +kernel, by decide +kernel⟩, List.mem_of_getElem? (i := 91) (by decide +kernel), List.mem_of_getElem? (i := 376) (by decide +kernel), List.mem_of_getElem? (i := 377) (by decide +kernel)⟩
theorem lw_p8 : lw_okq (⟨"SecondChances$RuleBook", "takeMark", "(I)Z"⟩, 10) := ⟨⟨by decide +kernel, by decide +kernel⟩, List.mem_of_getElem? (i := 91) (by decide +kernel), List.mem_of_getElem? (i := 380) (by decide +kernel), List.mem_of_getElem? (i := 381) (by decide +kernel)⟩
theorem lw_p9 : lw_okq (⟨"SecondChances", "isDeed", "(I)Z"⟩, 11) := ⟨⟨by decide +kernel, by decide +kernel⟩, List.mem_of_getElem? (i := 15) (by decide +kernel), List.mem_of_getElem? (i := 404) (by decide +kernel), List.mem_of_getElem? (i := 405) (by decide +kernel)⟩
theorem lw_p10 : lw_okq (⟨"SecondChances", "reckonOffers", "()V"⟩, 11) := ⟨⟨by decide +kernel, by decide +kernel⟩, List.mem_of_getElem? (i := 15) (by decide +kernel), List.mem_of_getElem? (i := 475) (by decide +kernel), List.mem_of_getElem? (i := 476) (by decide +kernel)⟩
theorem lw_p11 : lw_okq (⟨"SecondChances$Offers", "sortByPrice", "()V"⟩, 9) := ⟨⟨by decide +kernel, by decide +kernel⟩, List.mem_of_getElem? (i := 29) (by decide +kernel), List.mem_of_getElem? (i := 483) (by decide +kernel), List.mem_of_getElem? (i := 484) (by decide +kernel)⟩
theorem lw_p12 : lw_okq (⟨"SecondChances$Offers", "applyRule", "(I)V"⟩, 9) := ⟨⟨by decide +kernel, by decide +kernel⟩, List.mem_of_getElem? (i := 29) (by decide +kernel), List.mem_of_getElem? (i := 491) (by decide +kernel), List.mem_of_getElem? (i := 492) (by decide +kernel)⟩
theorem lw_p13 : lw_okq (⟨"SecondChances$Offers", "reckonOne", "(II)V"⟩, 9) := ⟨⟨by decide +kernel, by decide +kernel⟩, List.mem_of_getElem? (i := 29) (by decide +kernel), List.mem_of_getElem? (i := 505) (by decide +kernel), List.mem_of_getElem? (i := 506) (by decide +kernel)⟩
theorem lw_p14 : lw_okq (⟨"SecondChances", "reckonPlan", "()V"⟩, 11) := ⟨⟨by decide +kernel, by decide +kernel⟩, List.mem_of_getElem? (i := 15) (by decide +kernel), List.mem_of_getElem? (i := 555) (by decide +kernel), List.mem_of_getElem? (i := 556) (by decide +kernel)⟩
theorem lw_p15 : lw_okq (⟨"SecondChances$Planner", "reckonTogether", "(I)V"⟩, 8) := ⟨⟨by decide +kernel, by decide +kernel⟩, List.mem_of_getElem? (i := 23) (by decide +kernel), List.mem_of_getElem? (i := 569) (by decide +kernel), List.mem_of_getElem? (i := 570) (by decide +kernel)⟩
def lw_privs_1 : List (MethodName × Nat) := [(⟨"SecondChances", "nightChanged", "()V"⟩, 11), (⟨"SecondChances$DeedList", "goesOn", "(I)Z"⟩, 11), (⟨"SecondChances$DeedList", "takeInto", "([II)Z"⟩, 11), (⟨"SecondChances$DeedList", "takeWho", "(I)Z"⟩, 11), (⟨"SecondChances$RuleBook", "goesOn", "(I)Z"⟩, 10), (⟨"SecondChances$RuleBook", "takeKind", "(I)Z"⟩, 10), (⟨"SecondChances$RuleBook", "takeMany", "(I)Z"⟩, 10), (⟨"SecondChances$RuleBook", "say", "(II)V"⟩, 10), (⟨"SecondChances$RuleBook", "takeMark", "(I)Z"⟩, 10), (⟨"SecondChances", "isDeed", "(I)Z"⟩, 11), (⟨"SecondChances", "reckonOffers", "()V"⟩, 11), (⟨"SecondChances$Offers", "sortByPrice", "()V"⟩, 9), (⟨"SecondChances$Offers", "applyRule", "(I)V"⟩, 9), (⟨"SecondChances$Offers", "reckonOne", "(II)V"⟩, 9), (⟨"SecondChances", "reckonPlan", "()V"⟩, 11), (⟨"SecondChances$Planner", "reckonTogether", "(I)V"⟩, 8)]
theorem lw_r1 : ∀ q ∈ lw_privs_1, lw_okq q := List.forall_mem_cons.mpr ⟨lw_p0, List.forall_mem_cons.mpr ⟨lw_p1, List.forall_mem_cons.mpr ⟨lw_p2, List.forall_mem_cons.mpr ⟨lw_p3, List.forall_mem_cons.mpr ⟨lw_p4, List.forall_mem_cons.mpr ⟨lw_p5, List.forall_mem_cons.mpr ⟨lw_p6, List.forall_mem_cons.mpr ⟨lw_p7, List.forall_mem_cons.mpr ⟨lw_p8, List.forall_mem_cons.mpr ⟨lw_p9, List.forall_mem_cons.mpr ⟨lw_p10, List.forall_mem_cons.mpr ⟨lw_p11, List.forall_mem_cons.mpr ⟨lw_p12, List.forall_mem_cons.mpr ⟨lw_p13, List.forall_mem_cons.mpr ⟨lw_p14, List.forall_mem_cons.mpr ⟨lw_p15, fun _ h => absurd h List.not_mem_nil⟩⟩⟩⟩⟩⟩⟩⟩⟩⟩⟩⟩⟩⟩⟩⟩
theorem lw_p16 : lw_okq (⟨"SecondChances$Planner", "apartFrom", "(II)I"⟩, 8) := ⟨⟨by decide +kernel, by decide +kernel⟩, List.mem_of_getElem? (i := 23) (by decide +kernel), List.mem_of_getElem? (i := 574) (by decide +kernel), List.mem_of_getElem? (i := 575) (by decide +kernel)⟩
theorem lw_p17 : lw_okq (⟨"SecondChances$Planner", "joinHour", "(I)V"⟩, 8) := ⟨⟨by decide +kernel, by decide +kernel⟩, List.mem_of_getElem? (i := 23) (by decide +kernel), List.mem_of_getElem? (i := 586) (by decide +kernel), List.mem_of_getElem? (i := 587) (by decide +kernel)⟩
theorem lw_p18 : lw_okq (⟨"SecondChances$Planner", "turnedBy", "(I)I"⟩, 8) := ⟨⟨by decide +kernel, by decide +kernel⟩, List.mem_of_getElem? (i := 23) (by decide +kernel), List.mem_of_getElem? (i := 593) (by decide +kernel), List.mem_of_getElem? (i := 594) (by decide +kernel)⟩
theorem lw_p19 : lw_okq (⟨"SecondChances$Planner", "joinWithRest", "(IJ)V"⟩, 8) := ⟨⟨by decide +kernel, by decide +kernel⟩, List.mem_of_getElem? (i := 23) (by decide +kernel), List.mem_of_getElem? (i := 598) (by decide +kernel), List.mem_of_getElem? (i := 599) (by decide +kernel)⟩
theorem lw_p20 : lw_okq (⟨"SecondChances$Planner", "choose", "()V"⟩, 8) := ⟨⟨by decide +kernel, by decide +kernel⟩, List.mem_of_getElem? (i := 23) (by decide +kernel), List.mem_of_getElem? (i := 602) (by decide +kernel), List.mem_of_getElem? (i := 603) (by decide +kernel)⟩
theorem lw_p21 : lw_okq (⟨"SecondChances$Offers", "fitsBehind", "([II)Z"⟩, 9) := ⟨⟨by decide +kernel, by decide +kernel⟩, List.mem_of_getElem? (i := 29) (by decide +kernel), List.mem_of_getElem? (i := 623) (by decide +kernel), List.mem_of_getElem? (i := 624) (by decide +kernel)⟩
theorem lw_p22 : lw_okq (⟨"SecondChances$Sightings", "meetFoes", "(I)V"⟩, 7) := ⟨⟨by decide +kernel, by decide +kernel⟩, List.mem_of_getElem? (i := 216) (by decide +kernel), List.mem_of_getElem? (i := 683) (by decide +kernel), List.mem_of_getElem? (i := 684) (by decide +kernel)⟩
theorem lw_p23 : lw_okq (⟨"SecondChances$Sightings", "searchFewest", "()I"⟩, 7) := ⟨⟨by decide +kernel, by decide +kernel⟩, List.mem_of_getElem? (i := 216) (by decide +kernel), List.mem_of_getElem? (i := 707) (by decide +kernel), List.mem_of_getElem? (i := 708) (by decide +kernel)⟩
theorem lw_p24 : lw_okq (⟨"SecondChances$Sightings", "isPeaceful", "(I)Z"⟩, 7) := ⟨⟨by decide +kernel, by decide +kernel⟩, List.mem_of_getElem? (i := 216) (by decide +kernel), List.mem_of_getElem? (i := 712) (by decide +kernel), List.mem_of_getElem? (i := 713) (by decide +kernel)⟩
theorem lw_p25 : lw_okq (⟨"SecondChances", "sparedBy", "(I)I"⟩, 11) := ⟨⟨by decide +kernel, by decide +kernel⟩, List.mem_of_getElem? (i := 15) (by decide +kernel), List.mem_of_getElem? (i := 750) (by decide +kernel), List.mem_of_getElem? (i := 751) (by decide +kernel)⟩
theorem lw_p26 : lw_okq (⟨"SecondChances", "mixDeed", "(JI)J"⟩, 11) := ⟨⟨by decide +kernel, by decide +kernel⟩, List.mem_of_getElem? (i := 15) (by decide +kernel), List.mem_of_getElem? (i := 841) (by decide +kernel), List.mem_of_getElem? (i := 842) (by decide +kernel)⟩
theorem lw_p27 : lw_okq (⟨"SecondChancesModel", "faultOf", "(I)I"⟩, 39) := ⟨⟨by decide +kernel, by decide +kernel⟩, List.mem_of_getElem? (i := 858) (by decide +kernel), List.mem_of_getElem? (i := 997) (by decide +kernel), List.mem_of_getElem? (i := 998) (by decide +kernel)⟩
theorem lw_p28 : lw_okq (⟨"SecondChancesModel", "readsDeeds", "()I"⟩, 39) := ⟨⟨by decide +kernel, by decide +kernel⟩, List.mem_of_getElem? (i := 858) (by decide +kernel), List.mem_of_getElem? (i := 1001) (by decide +kernel), List.mem_of_getElem? (i := 1002) (by decide +kernel)⟩
theorem lw_p29 : lw_okq (⟨"SecondChancesModel", "byteAt", "(II)I"⟩, 39) := ⟨⟨by decide +kernel, by decide +kernel⟩, List.mem_of_getElem? (i := 858) (by decide +kernel), List.mem_of_getElem? (i := 1005) (by decide +kernel), List.mem_of_getElem? (i := 1006) (by decide +kernel)⟩
theorem lw_p30 : lw_okq (⟨"SecondChancesModel", "readsRules", "()I"⟩, 39) := ⟨⟨by decide +kernel, by decide +kernel⟩, List.mem_of_getElem? (i := 858) (by decide +kernel), List.mem_of_getElem? (i := 1015) (by decide +kernel), List.mem_of_getElem? (i := 1016) (by decide +kernel)⟩
theorem lw_p31 : lw_okq (⟨"SecondChancesModel", "noRules", "()V"⟩, 39) := ⟨⟨by decide +kernel, by decide +kernel⟩, List.mem_of_getElem? (i := 858) (by decide +kernel), List.mem_of_getElem? (i := 1019) (by decide +kernel), List.mem_of_getElem? (i := 1020) (by decide +kernel)⟩
def lw_privs_2 : List (MethodName × Nat) := [(⟨"SecondChances$Planner", "apartFrom", "(II)I"⟩, 8), (⟨"SecondChances$Planner", "joinHour", "(I)V"⟩, 8), (⟨"SecondChances$Planner", "turnedBy", "(I)I"⟩, 8), (⟨"SecondChances$Planner", "joinWithRest", "(IJ)V"⟩, 8), (⟨"SecondChances$Planner", "choose", "()V"⟩, 8), (⟨"SecondChances$Offers", "fitsBehind", "([II)Z"⟩, 9), (⟨"SecondChances$Sightings", "meetFoes", "(I)V"⟩, 7), (⟨"SecondChances$Sightings", "searchFewest", "()I"⟩, 7), (⟨"SecondChances$Sightings", "isPeaceful", "(I)Z"⟩, 7), (⟨"SecondChances", "sparedBy", "(I)I"⟩, 11), (⟨"SecondChances", "mixDeed", "(JI)J"⟩, 11), (⟨"SecondChancesModel", "faultOf", "(I)I"⟩, 39), (⟨"SecondChancesModel", "readsDeeds", "()I"⟩, 39), (⟨"SecondChancesModel", "byteAt", "(II)I"⟩, 39), (⟨"SecondChancesModel", "readsRules", "()I"⟩, 39), (⟨"SecondChancesModel", "noRules", "()V"⟩, 39)]
theorem lw_r2 : ∀ q ∈ lw_privs_2, lw_okq q := List.forall_mem_cons.mpr ⟨lw_p16, List.forall_mem_cons.mpr ⟨lw_p17, List.forall_mem_cons.mpr ⟨lw_p18, List.forall_mem_cons.mpr ⟨lw_p19, List.forall_mem_cons.mpr ⟨lw_p20, List.forall_mem_cons.mpr ⟨lw_p21, List.forall_mem_cons.mpr ⟨lw_p22, List.forall_mem_cons.mpr ⟨lw_p23, List.forall_mem_cons.mpr ⟨lw_p24, List.forall_mem_cons.mpr ⟨lw_p25, List.forall_mem_cons.mpr ⟨lw_p26, List.forall_mem_cons.mpr ⟨lw_p27, List.forall_mem_cons.mpr ⟨lw_p28, List.forall_mem_cons.mpr ⟨lw_p29, List.forall_mem_cons.mpr ⟨lw_p30, List.forall_mem_cons.mpr ⟨lw_p31, fun _ h => absurd h List.not_mem_nil⟩⟩⟩⟩⟩⟩⟩⟩⟩⟩⟩⟩⟩⟩⟩⟩
theorem lw_p32 : lw_okq (⟨"SecondChancesModel", "isDeed", "(I)Z"⟩, 39) := ⟨⟨by decide +kernel, by decide +kernel⟩, List.mem_of_getElem? (i := 858) (by decide +kernel), List.mem_of_getElem? (i := 1027) (by decide +kernel), List.mem_of_getElem? (i := 1028) (by decide +kernel)⟩
theorem lw_p33 : lw_okq (⟨"SecondChancesModel", "reads", "()V"⟩, 39) := ⟨⟨by decide +kernel, by decide +kernel⟩, List.mem_of_getElem? (i := 858) (by decide +kernel), List.mem_of_getElem? (i := 1031) (by decide +kernel), List.mem_of_getElem? (i := 1032) (by decide +kernel)⟩
theorem lw_p34 : lw_okq (⟨"SecondChancesModel", "deedOf", "(II)I"⟩, 39) := ⟨⟨by decide +kernel, by decide +kernel⟩, List.mem_of_getElem? (i := 858) (by decide +kernel), List.mem_of_getElem? (i := 1035) (by decide +kernel), List.mem_of_getElem? (i := 1036) (by decide +kernel)⟩
theorem lw_p35 : lw_okq (⟨"SecondChancesModel", "ruleOf", "(II)I"⟩, 39) := ⟨⟨by decide +kernel, by decide +kernel⟩, List.mem_of_getElem? (i := 858) (by decide +kernel), List.mem_of_getElem? (i := 1043) (by decide +kernel), List.mem_of_getElem? (i := 1044) (by decide +kernel)⟩
theorem lw_p36 : lw_okq (⟨"SecondChancesModel", "meets", "(I)I"⟩, 39) := ⟨⟨by decide +kernel, by decide +kernel⟩, List.mem_of_getElem? (i := 858) (by decide +kernel), List.mem_of_getElem? (i := 1072) (by decide +kernel), List.mem_of_getElem? (i := 1073) (by decide +kernel)⟩
theorem lw_p37 : lw_okq (⟨"SecondChancesModel", "canOf", "(II)I"⟩, 39) := ⟨⟨by decide +kernel, by decide +kernel⟩, List.mem_of_getElem? (i := 858) (by decide +kernel), List.mem_of_getElem? (i := 1080) (by decide +kernel), List.mem_of_getElem? (i := 1081) (by decide +kernel)⟩
theorem lw_p38 : lw_okq (⟨"SecondChancesModel", "comesOf", "(II)I"⟩, 39) := ⟨⟨by decide +kernel, by decide +kernel⟩, List.mem_of_getElem? (i := 858) (by decide +kernel), List.mem_of_getElem? (i := 1084) (by decide +kernel), List.mem_of_getElem? (i := 1085) (by decide +kernel)⟩
theorem lw_p39 : lw_okq (⟨"SecondChancesModel", "isTurned", "(II)Z"⟩, 39) := ⟨⟨by decide +kernel, by decide +kernel⟩, List.mem_of_getElem? (i := 858) (by decide +kernel), List.mem_of_getElem? (i := 1088) (by decide +kernel), List.mem_of_getElem? (i := 1089) (by decide +kernel)⟩
theorem lw_p40 : lw_okq (⟨"SecondChancesModel", "needs", "(I)I"⟩, 39) := ⟨⟨by decide +kernel, by decide +kernel⟩, List.mem_of_getElem? (i := 858) (by decide +kernel), List.mem_of_getElem? (i := 1092) (by decide +kernel), List.mem_of_getElem? (i := 1093) (by decide +kernel)⟩
theorem lw_p41 : lw_okq (⟨"SecondChancesModel", "hoursOf", "(I)I"⟩, 39) := ⟨⟨by decide +kernel, by decide +kernel⟩, List.mem_of_getElem? (i := 858) (by decide +kernel), List.mem_of_getElem? (i := 1103) (by decide +kernel), List.mem_of_getElem? (i := 1104) (by decide +kernel)⟩
theorem lw_p42 : lw_okq (⟨"SecondChancesModel", "costsOf", "(II)I"⟩, 39) := ⟨⟨by decide +kernel, by decide +kernel⟩, List.mem_of_getElem? (i := 858) (by decide +kernel), List.mem_of_getElem? (i := 1115) (by decide +kernel), List.mem_of_getElem? (i := 1116) (by decide +kernel)⟩
theorem lw_p43 : lw_okq (⟨"SecondChancesModel", "pricesOf", "(I)I"⟩, 39) := ⟨⟨by decide +kernel, by decide +kernel⟩, List.mem_of_getElem? (i := 858) (by decide +kernel), List.mem_of_getElem? (i := 1119) (by decide +kernel), List.mem_of_getElem? (i := 1120) (by decide +kernel)⟩
theorem lw_p44 : lw_okq (⟨"SecondChancesModel", "laysMost", "()V"⟩, 39) := ⟨⟨by decide +kernel, by decide +kernel⟩, List.mem_of_getElem? (i := 858) (by decide +kernel), List.mem_of_getElem? (i := 1127) (by decide +kernel), List.mem_of_getElem? (i := 1128) (by decide +kernel)⟩
theorem lw_p45 : lw_okq (⟨"SecondChancesModel", "costTogether", "(II)I"⟩, 39) := ⟨⟨by decide +kernel, by decide +kernel⟩, List.mem_of_getElem? (i := 858) (by decide +kernel), List.mem_of_getElem? (i := 1131) (by decide +kernel), List.mem_of_getElem? (i := 1132) (by decide +kernel)⟩
theorem lw_p46 : lw_okq (⟨"SecondChancesModel", "bestOf", "(I)V"⟩, 39) := ⟨⟨by decide +kernel, by decide +kernel⟩, List.mem_of_getElem? (i := 858) (by decide +kernel), List.mem_of_getElem? (i := 1136) (by decide +kernel), List.mem_of_getElem? (i := 1137) (by decide +kernel)⟩
theorem lw_p47 : lw_okq (⟨"SecondChancesModel", "worthBy", "(I)I"⟩, 39) := ⟨⟨by decide +kernel, by decide +kernel⟩, List.mem_of_getElem? (i := 858) (by decide +kernel), List.mem_of_getElem? (i := 1140) (by decide +kernel), List.mem_of_getElem? (i := 1141) (by decide +kernel)⟩
def lw_privs_3 : List (MethodName × Nat) := [(⟨"SecondChancesModel", "isDeed", "(I)Z"⟩, 39), (⟨"SecondChancesModel", "reads", "()V"⟩, 39), (⟨"SecondChancesModel", "deedOf", "(II)I"⟩, 39), (⟨"SecondChancesModel", "ruleOf", "(II)I"⟩, 39), (⟨"SecondChancesModel", "meets", "(I)I"⟩, 39), (⟨"SecondChancesModel", "canOf", "(II)I"⟩, 39), (⟨"SecondChancesModel", "comesOf", "(II)I"⟩, 39), (⟨"SecondChancesModel", "isTurned", "(II)Z"⟩, 39), (⟨"SecondChancesModel", "needs", "(I)I"⟩, 39), (⟨"SecondChancesModel", "hoursOf", "(I)I"⟩, 39), (⟨"SecondChancesModel", "costsOf", "(II)I"⟩, 39), (⟨"SecondChancesModel", "pricesOf", "(I)I"⟩, 39), (⟨"SecondChancesModel", "laysMost", "()V"⟩, 39), (⟨"SecondChancesModel", "costTogether", "(II)I"⟩, 39), (⟨"SecondChancesModel", "bestOf", "(I)V"⟩, 39), (⟨"SecondChancesModel", "worthBy", "(I)I"⟩, 39)]
theorem lw_r3 : ∀ q ∈ lw_privs_3, lw_okq q := List.forall_mem_cons.mpr ⟨lw_p32, List.forall_mem_cons.mpr ⟨lw_p33, List.forall_mem_cons.mpr ⟨lw_p34, List.forall_mem_cons.mpr ⟨lw_p35, List.forall_mem_cons.mpr ⟨lw_p36, List.forall_mem_cons.mpr ⟨lw_p37, List.forall_mem_cons.mpr ⟨lw_p38, List.forall_mem_cons.mpr ⟨lw_p39, List.forall_mem_cons.mpr ⟨lw_p40, List.forall_mem_cons.mpr ⟨lw_p41, List.forall_mem_cons.mpr ⟨lw_p42, List.forall_mem_cons.mpr ⟨lw_p43, List.forall_mem_cons.mpr ⟨lw_p44, List.forall_mem_cons.mpr ⟨lw_p45, List.forall_mem_cons.mpr ⟨lw_p46, List.forall_mem_cons.mpr ⟨lw_p47, fun _ h => absurd h List.not_mem_nil⟩⟩⟩⟩⟩⟩⟩⟩⟩⟩⟩⟩⟩⟩⟩⟩
theorem lw_p48 : lw_okq (⟨"SecondChancesModel", "planOf", "(II)I"⟩, 39) := ⟨⟨by decide +kernel, by decide +kernel⟩, List.mem_of_getElem? (i := 858) (by decide +kernel), List.mem_of_getElem? (i := 1152) (by decide +kernel), List.mem_of_getElem? (i := 1153) (by decide +kernel)⟩
theorem lw_p49 : lw_okq (⟨"SecondChancesModel", "planCostOf", "(I)I"⟩, 39) := ⟨⟨by decide +kernel, by decide +kernel⟩, List.mem_of_getElem? (i := 858) (by decide +kernel), List.mem_of_getElem? (i := 1156) (by decide +kernel), List.mem_of_getElem? (i := 1157) (by decide +kernel)⟩
theorem lw_p50 : lw_okq (⟨"SecondChancesModel", "askedOf", "(II)I"⟩, 39) := ⟨⟨by decide +kernel, by decide +kernel⟩, List.mem_of_getElem? (i := 858) (by decide +kernel), List.mem_of_getElem? (i := 1164) (by decide +kernel), List.mem_of_getElem? (i := 1165) (by decide +kernel)⟩
theorem lw_p51 : lw_okq (⟨"SecondChancesModel", "crowdOf", "(I)I"⟩, 39) := ⟨⟨by decide +kernel, by decide +kernel⟩, List.mem_of_getElem? (i := 858) (by decide +kernel), List.mem_of_getElem? (i := 1172) (by decide +kernel), List.mem_of_getElem? (i := 1173) (by decide +kernel)⟩
theorem lw_p52 : lw_okq (⟨"SecondChancesModel", "likenessOf", "(II)I"⟩, 39) := ⟨⟨by decide +kernel, by decide +kernel⟩, List.mem_of_getElem? (i := 858) (by decide +kernel), List.mem_of_getElem? (i := 1180) (by decide +kernel), List.mem_of_getElem? (i := 1181) (by decide +kernel)⟩
theorem lw_p53 : lw_okq (⟨"SecondChancesModel", "oddsOf", "(III)J"⟩, 39) := ⟨⟨by decide +kernel, by decide +kernel⟩, List.mem_of_getElem? (i := 858) (by decide +kernel), List.mem_of_getElem? (i := 1188) (by decide +kernel), List.mem_of_getElem? (i := 1189) (by decide +kernel)⟩
theorem lw_p54 : lw_okq (⟨"SecondChancesModel", "isSight", "(I)Z"⟩, 39) := ⟨⟨by decide +kernel, by decide +kernel⟩, List.mem_of_getElem? (i := 858) (by decide +kernel), List.mem_of_getElem? (i := 1208) (by decide +kernel), List.mem_of_getElem? (i := 1209) (by decide +kernel)⟩
theorem lw_p55 : lw_okq (⟨"SecondChancesModel", "areFalse", "(II)Z"⟩, 39) := ⟨⟨by decide +kernel, by decide +kernel⟩, List.mem_of_getElem? (i := 858) (by decide +kernel), List.mem_of_getElem? (i := 1212) (by decide +kernel), List.mem_of_getElem? (i := 1213) (by decide +kernel)⟩
theorem lw_p56 : lw_okq (⟨"SecondChancesModel", "hatsOf", "(I)I"⟩, 39) := ⟨⟨by decide +kernel, by decide +kernel⟩, List.mem_of_getElem? (i := 858) (by decide +kernel), List.mem_of_getElem? (i := 1220) (by decide +kernel), List.mem_of_getElem? (i := 1221) (by decide +kernel)⟩
theorem lw_p57 : lw_okq (⟨"SecondChancesModel", "allDeeds", "()I"⟩, 39) := ⟨⟨by decide +kernel, by decide +kernel⟩, List.mem_of_getElem? (i := 858) (by decide +kernel), List.mem_of_getElem? (i := 1236) (by decide +kernel), List.mem_of_getElem? (i := 1237) (by decide +kernel)⟩
theorem lw_p58 : lw_okq (⟨"SecondChancesModel", "sparedOf", "(I)I"⟩, 39) := ⟨⟨by decide +kernel, by decide +kernel⟩, List.mem_of_getElem? (i := 858) (by decide +kernel), List.mem_of_getElem? (i := 1240) (by decide +kernel), List.mem_of_getElem? (i := 1241) (by decide +kernel)⟩
theorem lw_p59 : lw_okq (⟨"SecondChancesModel", "bestNow", "()I"⟩, 39) := ⟨⟨by decide +kernel, by decide +kernel⟩, List.mem_of_getElem? (i := 858) (by decide +kernel), List.mem_of_getElem? (i := 1248) (by decide +kernel), List.mem_of_getElem? (i := 1249) (by decide +kernel)⟩
theorem lw_p60 : lw_okq (⟨"SecondChancesModel", "regretsOf", "(II)J"⟩, 39) := ⟨⟨by decide +kernel, by decide +kernel⟩, List.mem_of_getElem? (i := 858) (by decide +kernel), List.mem_of_getElem? (i := 1256) (by decide +kernel), List.mem_of_getElem? (i := 1257) (by decide +kernel)⟩
theorem lw_p61 : lw_okq (⟨"SecondChancesModel", "lacks", "(III)I"⟩, 39) := ⟨⟨by decide +kernel, by decide +kernel⟩, List.mem_of_getElem? (i := 858) (by decide +kernel), List.mem_of_getElem? (i := 1275) (by decide +kernel), List.mem_of_getElem? (i := 1276) (by decide +kernel)⟩
theorem lw_p62 : lw_okq (⟨"SecondChancesModel", "keep", "(III)V"⟩, 39) := ⟨⟨by decide +kernel, by decide +kernel⟩, List.mem_of_getElem? (i := 858) (by decide +kernel), List.mem_of_getElem? (i := 1279) (by decide +kernel), List.mem_of_getElem? (i := 1280) (by decide +kernel)⟩
theorem lw_p63 : lw_okq (⟨"SecondChancesModel", "sumOf", "(I)I"⟩, 39) := ⟨⟨by decide +kernel, by decide +kernel⟩, List.mem_of_getElem? (i := 858) (by decide +kernel), List.mem_of_getElem? (i := 1300) (by decide +kernel), List.mem_of_getElem? (i := 1301) (by decide +kernel)⟩
def lw_privs_4 : List (MethodName × Nat) := [(⟨"SecondChancesModel", "planOf", "(II)I"⟩, 39), (⟨"SecondChancesModel", "planCostOf", "(I)I"⟩, 39), (⟨"SecondChancesModel", "askedOf", "(II)I"⟩, 39), (⟨"SecondChancesModel", "crowdOf", "(I)I"⟩, 39), (⟨"SecondChancesModel", "likenessOf", "(II)I"⟩, 39), (⟨"SecondChancesModel", "oddsOf", "(III)J"⟩, 39), (⟨"SecondChancesModel", "isSight", "(I)Z"⟩, 39), (⟨"SecondChancesModel", "areFalse", "(II)Z"⟩, 39), (⟨"SecondChancesModel", "hatsOf", "(I)I"⟩, 39), (⟨"SecondChancesModel", "allDeeds", "()I"⟩, 39), (⟨"SecondChancesModel", "sparedOf", "(I)I"⟩, 39), (⟨"SecondChancesModel", "bestNow", "()I"⟩, 39), (⟨"SecondChancesModel", "regretsOf", "(II)J"⟩, 39), (⟨"SecondChancesModel", "lacks", "(III)I"⟩, 39), (⟨"SecondChancesModel", "keep", "(III)V"⟩, 39), (⟨"SecondChancesModel", "sumOf", "(I)I"⟩, 39)]
theorem lw_r4 : ∀ q ∈ lw_privs_4, lw_okq q := List.forall_mem_cons.mpr ⟨lw_p48, List.forall_mem_cons.mpr ⟨lw_p49, List.forall_mem_cons.mpr ⟨lw_p50, List.forall_mem_cons.mpr ⟨lw_p51, List.forall_mem_cons.mpr ⟨lw_p52, List.forall_mem_cons.mpr ⟨lw_p53, List.forall_mem_cons.mpr ⟨lw_p54, List.forall_mem_cons.mpr ⟨lw_p55, List.forall_mem_cons.mpr ⟨lw_p56, List.forall_mem_cons.mpr ⟨lw_p57, List.forall_mem_cons.mpr ⟨lw_p58, List.forall_mem_cons.mpr ⟨lw_p59, List.forall_mem_cons.mpr ⟨lw_p60, List.forall_mem_cons.mpr ⟨lw_p61, List.forall_mem_cons.mpr ⟨lw_p62, List.forall_mem_cons.mpr ⟨lw_p63, fun _ h => absurd h List.not_mem_nil⟩⟩⟩⟩⟩⟩⟩⟩⟩⟩⟩⟩⟩⟩⟩⟩
def lw_privs : List (MethodName × Nat) := lw_privs_1 ++ (lw_privs_2 ++ (lw_privs_3 ++ (lw_privs_4)))
def lw_tbl : List Cond := k2_sels lw_privs ++ tables_1
theorem lw_privs_ok : ∀ q ∈ lw_privs, lw_okq q := by
  show ∀ q ∈ lw_privs_1 ++ (lw_privs_2 ++ (lw_privs_3 ++ (lw_privs_4))), lw_okq q
  exact List.forall_mem_append.mpr ⟨lw_r1, List.forall_mem_append.mpr ⟨lw_r2, List.forall_mem_append.mpr ⟨lw_r3, lw_r4⟩⟩⟩
end
section
def RX0 : String := "SecondChances$DeedList"
def TX0 : u_T := fun k => match k with
  | 0 => ("SecondChances$DeedList", "kind", "[I", true)
  | 1 => ("SecondChances$DeedList", "place", "[I", true)
  | 2 => ("SecondChances$DeedList", "wet", "[I", true)
  | 3 => ("SecondChances$DeedList", "worth", "[I", true)
  | 4 => ("SecondChances$DeedList", "there", "[I", true)
  | 5 => ("SecondChances$DeedList", "bytes", "I", false)
  | 6 => ("SecondChances$DeedList", "size", "I", false)
  | 7 => ("SecondChances$DeedList", "flaw", "I", false)
  | 8 => ("SecondChances$DeedList", "now", "I", false)
  | 9 => ("SecondChances$DeedList", "step", "I", false)
  | _ => ("SecondChances$DeedList", "broken", "I", false)
def tyX0 : Nat → FieldType := fun k => match k with
  | 0 => .array .int
  | 1 => .array .int
  | 2 => .array .int
  | 3 => .array .int
  | 4 => .array .int
  | 5 => .int
  | 6 => .int
  | 7 => .int
  | 8 => .int
  | 9 => .int
  | _ => .int
theorem nmX0 : ∀ a, a < 11 → ∀ b, b < 11 → a ≠ b → (TX0 a).2.1 ≠ (TX0 b).2.1 := by decide +kernel
theorem tyX0_ok : ∀ k, k < 11 → parseFieldDescriptor (TX0 k).2.2.1 = some (tyX0 k) := by decide +kernel
abbrev cX0_init : ByteArray := prog_2_method_1_code
def yX0_init : MethodName := ⟨RX0, "<init>", "()V"⟩
abbrev cX0_take : ByteArray := prog_2_method_2_code
def yX0_take : MethodName := ⟨RX0, "take", "(I)I"⟩
abbrev cX0_clear : ByteArray := prog_2_method_3_code
def yX0_clear : MethodName := ⟨RX0, "clear", "()I"⟩
abbrev cX0_goesOn : ByteArray := prog_2_method_4_code
def yX0_goesOn : MethodName := ⟨RX0, "goesOn", "(I)Z"⟩
abbrev cX0_takeInto : ByteArray := prog_2_method_5_code
def yX0_takeInto : MethodName := ⟨RX0, "takeInto", "([II)Z"⟩
abbrev cX0_takeWho : ByteArray := prog_2_method_6_code
def yX0_takeWho : MethodName := ⟨RX0, "takeWho", "(I)Z"⟩
abbrev cX0_allBits : ByteArray := prog_2_method_7_code
def yX0_allBits : MethodName := ⟨RX0, "allBits", "()I"⟩
abbrev cX0_worthOf : ByteArray := prog_2_method_8_code
def yX0_worthOf : MethodName := ⟨RX0, "worthOf", "(I)I"⟩
def RX1 : String := "SecondChances$Night"
def TX1 : u_T := fun k => match k with
  | 0 => ("SecondChances$Night", "traits", "[I", true)
  | 1 => ("SecondChances$Night", "sky", "[I", true)
  | _ => ("SecondChances$Night", "setting", "[I", true)
def tyX1 : Nat → FieldType := fun k => match k with
  | 0 => .array .int
  | 1 => .array .int
  | _ => .array .int
theorem nmX1 : ∀ a, a < 3 → ∀ b, b < 3 → a ≠ b → (TX1 a).2.1 ≠ (TX1 b).2.1 := by decide +kernel
theorem tyX1_ok : ∀ k, k < 3 → parseFieldDescriptor (TX1 k).2.2.1 = some (tyX1 k) := by decide +kernel
abbrev cX1_init : ByteArray := prog_3_method_1_code
def yX1_init : MethodName := ⟨RX1, "<init>", "()V"⟩
abbrev cX1_trait : ByteArray := prog_3_method_2_code
def yX1_trait : MethodName := ⟨RX1, "trait", "(II)I"⟩
abbrev cX1_changeTrait : ByteArray := prog_3_method_3_code
def yX1_changeTrait : MethodName := ⟨RX1, "changeTrait", "(III)I"⟩
abbrev cX1_changeSky : ByteArray := prog_3_method_4_code
def yX1_changeSky : MethodName := ⟨RX1, "changeSky", "(II)I"⟩
abbrev cX1_changeSetting : ByteArray := prog_3_method_5_code
def yX1_changeSetting : MethodName := ⟨RX1, "changeSetting", "(II)I"⟩
abbrev cX1_isHere : ByteArray := prog_3_method_6_code
def yX1_isHere : MethodName := ⟨RX1, "isHere", "(II)Z"⟩
abbrev cX1_rainyHours : ByteArray := prog_3_method_7_code
def yX1_rainyHours : MethodName := ⟨RX1, "rainyHours", "()I"⟩
def RX2 : String := "SecondChances$Offers"
def TX2 : u_T := fun k => match k with
  | 0 => ("SecondChances$Offers", "deeds", "LSecondChances$DeedList;", true)
  | 1 => ("SecondChances$Offers", "rules", "LSecondChances$RuleBook;", true)
  | 2 => ("SecondChances$Offers", "night", "LSecondChances$Night;", true)
  | 3 => ("SecondChances$Offers", "need", "[I", true)
  | 4 => ("SecondChances$Offers", "asksWeather", "[Z", true)
  | 5 => ("SecondChances$Offers", "asksPlace", "[Z", true)
  | 6 => ("SecondChances$Offers", "who", "[I", true)
  | 7 => ("SecondChances$Offers", "price", "[I", true)
  | _ => ("SecondChances$Offers", "byPrice", "[I", true)
def tyX2 : Nat → FieldType := fun k => match k with
  | 0 => .object "SecondChances$DeedList"
  | 1 => .object "SecondChances$RuleBook"
  | 2 => .object "SecondChances$Night"
  | 3 => .array .int
  | 4 => .array .boolean
  | 5 => .array .boolean
  | 6 => .array .int
  | 7 => .array .int
  | _ => .array .int
theorem nmX2 : ∀ a, a < 9 → ∀ b, b < 9 → a ≠ b → (TX2 a).2.1 ≠ (TX2 b).2.1 := by decide +kernel
theorem tyX2_ok : ∀ k, k < 9 → parseFieldDescriptor (TX2 k).2.2.1 = some (tyX2 k) := by decide +kernel
abbrev cX2_init : ByteArray := prog_4_method_1_code
def yX2_init : MethodName := ⟨RX2, "<init>", "()V"⟩
abbrev cX2_reckon : ByteArray := prog_4_method_2_code
def yX2_reckon : MethodName := ⟨RX2, "reckon", "()V"⟩
abbrev cX2_applyRule : ByteArray := prog_4_method_3_code
def yX2_applyRule : MethodName := ⟨RX2, "applyRule", "(I)V"⟩
abbrev cX2_sortByPrice : ByteArray := prog_4_method_4_code
def yX2_sortByPrice : MethodName := ⟨RX2, "sortByPrice", "()V"⟩
abbrev cX2_reckonOne : ByteArray := prog_4_method_5_code
def yX2_reckonOne : MethodName := ⟨RX2, "reckonOne", "(II)V"⟩
abbrev cX2_isOpen : ByteArray := prog_4_method_6_code
def yX2_isOpen : MethodName := ⟨RX2, "isOpen", "(II)Z"⟩
abbrev cX2_whoComes : ByteArray := prog_4_method_7_code
def yX2_whoComes : MethodName := ⟨RX2, "whoComes", "(II)I"⟩
abbrev cX2_priceOfPeople : ByteArray := prog_4_method_8_code
def yX2_priceOfPeople : MethodName := ⟨RX2, "priceOfPeople", "(II)I"⟩
abbrev cX2_fullPrice : ByteArray := prog_4_method_9_code
def yX2_fullPrice : MethodName := ⟨RX2, "fullPrice", "(II)I"⟩
abbrev cX2_openHours : ByteArray := prog_4_method_10_code
def yX2_openHours : MethodName := ⟨RX2, "openHours", "(I)I"⟩
abbrev cX2_hopefulDeeds : ByteArray := prog_4_method_11_code
def yX2_hopefulDeeds : MethodName := ⟨RX2, "hopefulDeeds", "()I"⟩
abbrev cX2_timesAsked : ByteArray := prog_4_method_12_code
def yX2_timesAsked : MethodName := ⟨RX2, "timesAsked", "(II)I"⟩
abbrev cX2_tenths : ByteArray := prog_4_method_13_code
def yX2_tenths : MethodName := ⟨RX2, "tenths", "(II)I"⟩
abbrev cX2_isTurned : ByteArray := prog_4_method_14_code
def yX2_isTurned : MethodName := ⟨RX2, "isTurned", "(II)Z"⟩
abbrev cX2_areApart : ByteArray := prog_4_method_15_code
def yX2_areApart : MethodName := ⟨RX2, "areApart", "(III)Z"⟩
abbrev cX2_isPlan : ByteArray := prog_4_method_16_code
def yX2_isPlan : MethodName := ⟨RX2, "isPlan", "([I)Z"⟩
abbrev cX2_fitsBehind : ByteArray := prog_4_method_17_code
def yX2_fitsBehind : MethodName := ⟨RX2, "fitsBehind", "([II)Z"⟩
abbrev cX2_worthOfPlan : ByteArray := prog_4_method_18_code
def yX2_worthOfPlan : MethodName := ⟨RX2, "worthOfPlan", "([I)I"⟩
abbrev cX2_costOfPlan : ByteArray := prog_4_method_19_code
def yX2_costOfPlan : MethodName := ⟨RX2, "costOfPlan", "([I)I"⟩
def RX3 : String := "SecondChances$Pairs"
def TX3 : u_T := fun k => match k with
  | 0 => ("SecondChances$Pairs", "size", "I", false)
  | 1 => ("SecondChances$Pairs", "first", "[I", true)
  | _ => ("SecondChances$Pairs", "then", "[I", true)
def tyX3 : Nat → FieldType := fun k => match k with
  | 0 => .int
  | 1 => .array .int
  | _ => .array .int
theorem nmX3 : ∀ a, a < 3 → ∀ b, b < 3 → a ≠ b → (TX3 a).2.1 ≠ (TX3 b).2.1 := by decide +kernel
theorem tyX3_ok : ∀ k, k < 3 → parseFieldDescriptor (TX3 k).2.2.1 = some (tyX3 k) := by decide +kernel
abbrev cX3_init : ByteArray := prog_5_method_1_code
def yX3_init : MethodName := ⟨RX3, "<init>", "()V"⟩
abbrev cX3_isFull : ByteArray := prog_5_method_2_code
def yX3_isFull : MethodName := ⟨RX3, "isFull", "()Z"⟩
abbrev cX3_add : ByteArray := prog_5_method_3_code
def yX3_add : MethodName := ⟨RX3, "add", "(II)I"⟩
abbrev cX3_clear : ByteArray := prog_5_method_4_code
def yX3_clear : MethodName := ⟨RX3, "clear", "()I"⟩
abbrev cX3_reached : ByteArray := prog_5_method_5_code
def yX3_reached : MethodName := ⟨RX3, "reached", "(II)I"⟩
def RX4 : String := "SecondChances$Planner"
def TX4 : u_T := fun k => match k with
  | 0 => ("SecondChances$Planner", "row", "[I", true)
  | 1 => ("SecondChances$Planner", "worth", "I", false)
  | 2 => ("SecondChances$Planner", "cost", "I", false)
  | 3 => ("SecondChances$Planner", "offers", "LSecondChances$Offers;", true)
  | 4 => ("SecondChances$Planner", "least", "[J", true)
  | 5 => ("SecondChances$Planner", "before", "[J", true)
  | 6 => ("SecondChances$Planner", "together", "[J", true)
  | _ => ("SecondChances$Planner", "all", "I", false)
def tyX4 : Nat → FieldType := fun k => match k with
  | 0 => .array .int
  | 1 => .int
  | 2 => .int
  | 3 => .object "SecondChances$Offers"
  | 4 => .array .long
  | 5 => .array .long
  | 6 => .array .long
  | _ => .int
theorem nmX4 : ∀ a, a < 8 → ∀ b, b < 8 → a ≠ b → (TX4 a).2.1 ≠ (TX4 b).2.1 := by decide +kernel
theorem tyX4_ok : ∀ k, k < 8 → parseFieldDescriptor (TX4 k).2.2.1 = some (tyX4 k) := by decide +kernel
abbrev cX4_init : ByteArray := prog_6_method_1_code
def yX4_init : MethodName := ⟨RX4, "<init>", "()V"⟩
abbrev cX4_reckon : ByteArray := prog_6_method_2_code
def yX4_reckon : MethodName := ⟨RX4, "reckon", "()V"⟩
abbrev cX4_joinHour : ByteArray := prog_6_method_3_code
def yX4_joinHour : MethodName := ⟨RX4, "joinHour", "(I)V"⟩
abbrev cX4_turnedBy : ByteArray := prog_6_method_4_code
def yX4_turnedBy : MethodName := ⟨RX4, "turnedBy", "(I)I"⟩
abbrev cX4_reckonTogether : ByteArray := prog_6_method_5_code
def yX4_reckonTogether : MethodName := ⟨RX4, "reckonTogether", "(I)V"⟩
abbrev cX4_apartFrom : ByteArray := prog_6_method_6_code
def yX4_apartFrom : MethodName := ⟨RX4, "apartFrom", "(II)I"⟩
abbrev cX4_joinWithRest : ByteArray := prog_6_method_7_code
def yX4_joinWithRest : MethodName := ⟨RX4, "joinWithRest", "(IJ)V"⟩
abbrev cX4_choose : ByteArray := prog_6_method_8_code
def yX4_choose : MethodName := ⟨RX4, "choose", "()V"⟩
def RX5 : String := "SecondChances$RuleBook"
def TX5 : u_T := fun k => match k with
  | 0 => ("SecondChances$RuleBook", "bytes", "I", false)
  | 1 => ("SecondChances$RuleBook", "parts", "I", false)
  | 2 => ("SecondChances$RuleBook", "flaw", "I", false)
  | 3 => ("SecondChances$RuleBook", "need", "[I", true)
  | 4 => ("SecondChances$RuleBook", "weather", "[Z", true)
  | 5 => ("SecondChances$RuleBook", "place", "[Z", true)
  | 6 => ("SecondChances$RuleBook", "begun", "I", false)
  | 7 => ("SecondChances$RuleBook", "kind", "I", false)
  | 8 => ("SecondChances$RuleBook", "step", "I", false)
  | _ => ("SecondChances$RuleBook", "broken", "I", false)
def tyX5 : Nat → FieldType := fun k => match k with
  | 0 => .int
  | 1 => .int
  | 2 => .int
  | 3 => .array .int
  | 4 => .array .boolean
  | 5 => .array .boolean
  | 6 => .int
  | 7 => .int
  | 8 => .int
  | _ => .int
theorem nmX5 : ∀ a, a < 10 → ∀ b, b < 10 → a ≠ b → (TX5 a).2.1 ≠ (TX5 b).2.1 := by decide +kernel
theorem tyX5_ok : ∀ k, k < 10 → parseFieldDescriptor (TX5 k).2.2.1 = some (tyX5 k) := by decide +kernel
abbrev cX5_init : ByteArray := prog_7_method_1_code
def yX5_init : MethodName := ⟨RX5, "<init>", "()V"⟩
abbrev cX5_take : ByteArray := prog_7_method_2_code
def yX5_take : MethodName := ⟨RX5, "take", "(I)I"⟩
abbrev cX5_clear : ByteArray := prog_7_method_3_code
def yX5_clear : MethodName := ⟨RX5, "clear", "()I"⟩
abbrev cX5_goesOn : ByteArray := prog_7_method_4_code
def yX5_goesOn : MethodName := ⟨RX5, "goesOn", "(I)Z"⟩
abbrev cX5_takeKind : ByteArray := prog_7_method_5_code
def yX5_takeKind : MethodName := ⟨RX5, "takeKind", "(I)Z"⟩
abbrev cX5_takeMany : ByteArray := prog_7_method_6_code
def yX5_takeMany : MethodName := ⟨RX5, "takeMany", "(I)Z"⟩
abbrev cX5_takeMark : ByteArray := prog_7_method_7_code
def yX5_takeMark : MethodName := ⟨RX5, "takeMark", "(I)Z"⟩
abbrev cX5_say : ByteArray := prog_7_method_8_code
def yX5_say : MethodName := ⟨RX5, "say", "(II)V"⟩
abbrev cX5_needOf : ByteArray := prog_7_method_9_code
def yX5_needOf : MethodName := ⟨RX5, "needOf", "(I)I"⟩
abbrev cX5_asksWeather : ByteArray := prog_7_method_10_code
def yX5_asksWeather : MethodName := ⟨RX5, "asksWeather", "(I)Z"⟩
abbrev cX5_asksPlace : ByteArray := prog_7_method_11_code
def yX5_asksPlace : MethodName := ⟨RX5, "asksPlace", "(I)Z"⟩
def RX6 : String := "SecondChances$Sheets"
def TX6 : u_T := fun k => match k with
  | 0 => ("SecondChances$Sheets", "rows", "[[I", true)
  | 1 => ("SecondChances$Sheets", "form", "[I", true)
  | 2 => ("SecondChances$Sheets", "size", "[I", true)
  | _ => ("SecondChances$Sheets", "latestFinding", "I", false)
def tyX6 : Nat → FieldType := fun k => match k with
  | 0 => .array (.array .int)
  | 1 => .array .int
  | 2 => .array .int
  | _ => .int
theorem nmX6 : ∀ a, a < 4 → ∀ b, b < 4 → a ≠ b → (TX6 a).2.1 ≠ (TX6 b).2.1 := by decide +kernel
theorem tyX6_ok : ∀ k, k < 4 → parseFieldDescriptor (TX6 k).2.2.1 = some (tyX6 k) := by decide +kernel
abbrev cX6_init : ByteArray := prog_8_method_1_code
def yX6_init : MethodName := ⟨RX6, "<init>", "()V"⟩
abbrev cX6_isNumber : ByteArray := prog_8_method_2_code
def yX6_isNumber : MethodName := ⟨RX6, "isNumber", "(I)Z"⟩
abbrev cX6_isForm : ByteArray := prog_8_method_3_code
def yX6_isForm : MethodName := ⟨RX6, "isForm", "(I)Z"⟩
abbrev cX6_isLost : ByteArray := prog_8_method_4_code
def yX6_isLost : MethodName := ⟨RX6, "isLost", "(I)Z"⟩
abbrev cX6_tell : ByteArray := prog_8_method_5_code
def yX6_tell : MethodName := ⟨RX6, "tell", "(I)I"⟩
abbrev cX6_renew : ByteArray := prog_8_method_6_code
def yX6_renew : MethodName := ⟨RX6, "renew", "(III)I"⟩
abbrev cX6_drop : ByteArray := prog_8_method_7_code
def yX6_drop : MethodName := ⟨RX6, "drop", "(I)I"⟩
abbrev cX6_findingAt : ByteArray := prog_8_method_8_code
def yX6_findingAt : MethodName := ⟨RX6, "findingAt", "(III)I"⟩
abbrev cX6_hasSpan : ByteArray := prog_8_method_9_code
def yX6_hasSpan : MethodName := ⟨RX6, "hasSpan", "(III)Z"⟩
abbrev cX6_store : ByteArray := prog_8_method_10_code
def yX6_store : MethodName := ⟨RX6, "store", "(III)V"⟩
def RX7 : String := "SecondChances$Sightings"
def TX7 : u_T := fun k => match k with
  | 0 => ("SecondChances$Sightings", "size", "I", false)
  | 1 => ("SecondChances$Sightings", "person", "[I", true)
  | 2 => ("SecondChances$Sightings", "place", "[I", true)
  | 3 => ("SecondChances$Sightings", "hour", "[I", true)
  | 4 => ("SecondChances$Sightings", "foes", "[I", true)
  | 5 => ("SecondChances$Sightings", "hatBits", "I", false)
  | _ => ("SecondChances$Sightings", "stale", "Z", false)
def tyX7 : Nat → FieldType := fun k => match k with
  | 0 => .int
  | 1 => .array .int
  | 2 => .array .int
  | 3 => .array .int
  | 4 => .array .int
  | 5 => .int
  | _ => .boolean
theorem nmX7 : ∀ a, a < 7 → ∀ b, b < 7 → a ≠ b → (TX7 a).2.1 ≠ (TX7 b).2.1 := by decide +kernel
theorem tyX7_ok : ∀ k, k < 7 → parseFieldDescriptor (TX7 k).2.2.1 = some (tyX7 k) := by decide +kernel
abbrev cX7_init : ByteArray := prog_9_method_1_code
def yX7_init : MethodName := ⟨RX7, "<init>", "()V"⟩
abbrev cX7_isFull : ByteArray := prog_9_method_2_code
def yX7_isFull : MethodName := ⟨RX7, "isFull", "()Z"⟩
abbrev cX7_add : ByteArray := prog_9_method_3_code
def yX7_add : MethodName := ⟨RX7, "add", "(III)I"⟩
abbrev cX7_meetFoes : ByteArray := prog_9_method_4_code
def yX7_meetFoes : MethodName := ⟨RX7, "meetFoes", "(I)V"⟩
abbrev cX7_clear : ByteArray := prog_9_method_5_code
def yX7_clear : MethodName := ⟨RX7, "clear", "()I"⟩
abbrev cX7_clash : ByteArray := prog_9_method_6_code
def yX7_clash : MethodName := ⟨RX7, "clash", "(II)Z"⟩
abbrev cX7_fewestFalse : ByteArray := prog_9_method_7_code
def yX7_fewestFalse : MethodName := ⟨RX7, "fewestFalse", "()I"⟩
abbrev cX7_searchFewest : ByteArray := prog_9_method_8_code
def yX7_searchFewest : MethodName := ⟨RX7, "searchFewest", "()I"⟩
abbrev cX7_isPeaceful : ByteArray := prog_9_method_9_code
def yX7_isPeaceful : MethodName := ⟨RX7, "isPeaceful", "(I)Z"⟩
def RX8 : String := "SecondChances"
def TX8 : u_T := fun k => match k with
  | 0 => ("SecondChances", "planner", "LSecondChances$Planner;", true)
  | 1 => ("SecondChances", "offers", "LSecondChances$Offers;", true)
  | 2 => ("SecondChances", "deedList", "LSecondChances$DeedList;", true)
  | 3 => ("SecondChances", "ruleBook", "LSecondChances$RuleBook;", true)
  | 4 => ("SecondChances", "night", "LSecondChances$Night;", true)
  | 5 => ("SecondChances", "sightings", "LSecondChances$Sightings;", true)
  | 6 => ("SecondChances", "pairs", "LSecondChances$Pairs;", true)
  | 7 => ("SecondChances", "sheets", "LSecondChances$Sheets;", true)
  | 8 => ("SecondChances", "draft", "[I", true)
  | 9 => ("SecondChances", "offersStale", "Z", false)
  | _ => ("SecondChances", "planStale", "Z", false)
def tyX8 : Nat → FieldType := fun k => match k with
  | 0 => .object "SecondChances$Planner"
  | 1 => .object "SecondChances$Offers"
  | 2 => .object "SecondChances$DeedList"
  | 3 => .object "SecondChances$RuleBook"
  | 4 => .object "SecondChances$Night"
  | 5 => .object "SecondChances$Sightings"
  | 6 => .object "SecondChances$Pairs"
  | 7 => .object "SecondChances$Sheets"
  | 8 => .array .int
  | 9 => .boolean
  | _ => .boolean
theorem nmX8 : ∀ a, a < 11 → ∀ b, b < 11 → a ≠ b → (TX8 a).2.1 ≠ (TX8 b).2.1 := by decide +kernel
theorem tyX8_ok : ∀ k, k < 11 → parseFieldDescriptor (TX8 k).2.2.1 = some (tyX8 k) := by decide +kernel
abbrev cX8_init : ByteArray := prog_1_method_1_code
def yX8_init : MethodName := ⟨RX8, "<init>", "()V"⟩
abbrev cX8_type : ByteArray := prog_1_method_2_code
def yX8_type : MethodName := ⟨RX8, "type", "(II)I"⟩
abbrev cX8_wipe : ByteArray := prog_1_method_3_code
def yX8_wipe : MethodName := ⟨RX8, "wipe", "(I)I"⟩
abbrev cX8_fault : ByteArray := prog_1_method_4_code
def yX8_fault : MethodName := ⟨RX8, "fault", "(I)I"⟩
abbrev cX8_deed : ByteArray := prog_1_method_5_code
def yX8_deed : MethodName := ⟨RX8, "deed", "(II)I"⟩
abbrev cX8_rule : ByteArray := prog_1_method_6_code
def yX8_rule : MethodName := ⟨RX8, "rule", "(II)I"⟩
abbrev cX8_person : ByteArray := prog_1_method_7_code
def yX8_person : MethodName := ⟨RX8, "person", "(III)I"⟩
abbrev cX8_weather : ByteArray := prog_1_method_8_code
def yX8_weather : MethodName := ⟨RX8, "weather", "(II)I"⟩
abbrev cX8_set : ByteArray := prog_1_method_9_code
def yX8_set : MethodName := ⟨RX8, "set", "(II)I"⟩
abbrev cX8_read : ByteArray := prog_1_method_10_code
def yX8_read : MethodName := ⟨RX8, "read", "(I)I"⟩
abbrev cX8_can : ByteArray := prog_1_method_11_code
def yX8_can : MethodName := ⟨RX8, "can", "(II)I"⟩
abbrev cX8_hours : ByteArray := prog_1_method_12_code
def yX8_hours : MethodName := ⟨RX8, "hours", "(I)I"⟩
abbrev cX8_comes : ByteArray := prog_1_method_13_code
def yX8_comes : MethodName := ⟨RX8, "comes", "(II)I"⟩
abbrev cX8_costs : ByteArray := prog_1_method_14_code
def yX8_costs : MethodName := ⟨RX8, "costs", "(II)I"⟩
abbrev cX8_most : ByteArray := prog_1_method_15_code
def yX8_most : MethodName := ⟨RX8, "most", "(I)I"⟩
abbrev cX8_when : ByteArray := prog_1_method_16_code
def yX8_when : MethodName := ⟨RX8, "when", "(I)I"⟩
abbrev cX8_plan : ByteArray := prog_1_method_17_code
def yX8_plan : MethodName := ⟨RX8, "plan", "(II)I"⟩
abbrev cX8_asked : ByteArray := prog_1_method_18_code
def yX8_asked : MethodName := ⟨RX8, "asked", "(II)I"⟩
abbrev cX8_crowd : ByteArray := prog_1_method_19_code
def yX8_crowd : MethodName := ⟨RX8, "crowd", "(I)I"⟩
abbrev cX8_likeness : ByteArray := prog_1_method_20_code
def yX8_likeness : MethodName := ⟨RX8, "likeness", "(II)I"⟩
abbrev cX8_odds : ByteArray := prog_1_method_21_code
def yX8_odds : MethodName := ⟨RX8, "odds", "(III)J"⟩
abbrev cX8_seen : ByteArray := prog_1_method_22_code
def yX8_seen : MethodName := ⟨RX8, "seen", "(III)I"⟩
abbrev cX8_isFalse : ByteArray := prog_1_method_23_code
def yX8_isFalse : MethodName := ⟨RX8, "isFalse", "(II)I"⟩
abbrev cX8_hats : ByteArray := prog_1_method_24_code
def yX8_hats : MethodName := ⟨RX8, "hats", "(I)I"⟩
abbrev cX8_after : ByteArray := prog_1_method_25_code
def yX8_after : MethodName := ⟨RX8, "after", "(II)I"⟩
abbrev cX8_forget : ByteArray := prog_1_method_26_code
def yX8_forget : MethodName := ⟨RX8, "forget", "(I)I"⟩
abbrev cX8_spared : ByteArray := prog_1_method_27_code
def yX8_spared : MethodName := ⟨RX8, "spared", "(I)I"⟩
abbrev cX8_best : ByteArray := prog_1_method_28_code
def yX8_best : MethodName := ⟨RX8, "best", "()I"⟩
abbrev cX8_regrets : ByteArray := prog_1_method_29_code
def yX8_regrets : MethodName := ⟨RX8, "regrets", "(II)J"⟩
abbrev cX8_sheet : ByteArray := prog_1_method_30_code
def yX8_sheet : MethodName := ⟨RX8, "sheet", "(III)I"⟩
abbrev cX8_lose : ByteArray := prog_1_method_31_code
def yX8_lose : MethodName := ⟨RX8, "lose", "(I)I"⟩
abbrev cX8_put : ByteArray := prog_1_method_32_code
def yX8_put : MethodName := ⟨RX8, "put", "(IIII)I"⟩
abbrev cX8_get : ByteArray := prog_1_method_33_code
def yX8_get : MethodName := ⟨RX8, "get", "(III)I"⟩
abbrev cX8_copy : ByteArray := prog_1_method_34_code
def yX8_copy : MethodName := ⟨RX8, "copy", "(IIIII)I"⟩
abbrev cX8_write : ByteArray := prog_1_method_35_code
def yX8_write : MethodName := ⟨RX8, "write", "(I)I"⟩
abbrev cX8_count : ByteArray := prog_1_method_36_code
def yX8_count : MethodName := ⟨RX8, "count", "(I)I"⟩
abbrev cX8_digest : ByteArray := prog_1_method_37_code
def yX8_digest : MethodName := ⟨RX8, "digest", "()J"⟩
abbrev cX8_mixDeed : ByteArray := prog_1_method_38_code
def yX8_mixDeed : MethodName := ⟨RX8, "mixDeed", "(JI)J"⟩
abbrev cX8_mix : ByteArray := prog_1_method_39_code
def yX8_mix : MethodName := ⟨RX8, "mix", "(JJ)J"⟩
abbrev cX8_within : ByteArray := prog_1_method_40_code
def yX8_within : MethodName := ⟨RX8, "within", "(II)Z"⟩
abbrev cX8_hasBit : ByteArray := prog_1_method_41_code
def yX8_hasBit : MethodName := ⟨RX8, "hasBit", "(II)Z"⟩
abbrev cX8_kindOf : ByteArray := prog_1_method_42_code
def yX8_kindOf : MethodName := ⟨RX8, "kindOf", "(I)I"⟩
abbrev cX8_figureOf : ByteArray := prog_1_method_43_code
def yX8_figureOf : MethodName := ⟨RX8, "figureOf", "(III)I"⟩
abbrev cX8_refusal : ByteArray := prog_1_method_44_code
def yX8_refusal : MethodName := ⟨RX8, "refusal", "(I)J"⟩
abbrev cX8_lowestTerm : ByteArray := prog_1_method_45_code
def yX8_lowestTerm : MethodName := ⟨RX8, "lowestTerm", "(III)J"⟩
abbrev cX8_isDeed : ByteArray := prog_1_method_46_code
def yX8_isDeed : MethodName := ⟨RX8, "isDeed", "(I)Z"⟩
abbrev cX8_sparedBy : ByteArray := prog_1_method_47_code
def yX8_sparedBy : MethodName := ⟨RX8, "sparedBy", "(I)I"⟩
abbrev cX8_nightChanged : ByteArray := prog_1_method_48_code
def yX8_nightChanged : MethodName := ⟨RX8, "nightChanged", "()V"⟩
abbrev cX8_reckonOffers : ByteArray := prog_1_method_49_code
def yX8_reckonOffers : MethodName := ⟨RX8, "reckonOffers", "()V"⟩
abbrev cX8_reckonPlan : ByteArray := prog_1_method_50_code
def yX8_reckonPlan : MethodName := ⟨RX8, "reckonPlan", "()V"⟩
def RX9 : String := "SecondChancesModel"
def TX9 : u_T := fun k => match k with
  | 0 => ("SecondChancesModel", "typed", "[I", true)
  | 1 => ("SecondChancesModel", "texts", "[I", true)
  | 2 => ("SecondChancesModel", "deeds", "I", false)
  | 3 => ("SecondChancesModel", "kindOf", "[I", true)
  | 4 => ("SecondChancesModel", "placeOf", "[I", true)
  | 5 => ("SecondChancesModel", "rainOf", "[I", true)
  | 6 => ("SecondChancesModel", "worthOf", "[I", true)
  | 7 => ("SecondChancesModel", "whoOf", "[I", true)
  | 8 => ("SecondChancesModel", "parts", "I", false)
  | 9 => ("SecondChancesModel", "ruleMany", "[I", true)
  | 10 => ("SecondChancesModel", "ruleRain", "[I", true)
  | 11 => ("SecondChancesModel", "rulePlace", "[I", true)
  | 12 => ("SecondChancesModel", "come", "[I", true)
  | 13 => ("SecondChancesModel", "until", "[I", true)
  | 14 => ("SecondChancesModel", "price", "[I", true)
  | 15 => ("SecondChancesModel", "memory", "[I", true)
  | 16 => ("SecondChancesModel", "rains", "[I", true)
  | 17 => ("SecondChancesModel", "setting", "[I", true)
  | 18 => ("SecondChancesModel", "together", "[I", true)
  | 19 => ("SecondChancesModel", "least", "[I", true)
  | 20 => ("SecondChancesModel", "then", "[I", true)
  | 21 => ("SecondChancesModel", "fixed", "[I", true)
  | 22 => ("SecondChancesModel", "bestWorth", "I", false)
  | 23 => ("SecondChancesModel", "bestCost", "I", false)
  | 24 => ("SecondChancesModel", "planWorth", "I", false)
  | 25 => ("SecondChancesModel", "planCost", "I", false)
  | 26 => ("SecondChancesModel", "sights", "I", false)
  | 27 => ("SecondChancesModel", "seenWho", "[I", true)
  | 28 => ("SecondChancesModel", "seenPlace", "[I", true)
  | 29 => ("SecondChancesModel", "seenHour", "[I", true)
  | 30 => ("SecondChancesModel", "pairs", "I", false)
  | 31 => ("SecondChancesModel", "pairOf", "[I", true)
  | 32 => ("SecondChancesModel", "pairThen", "[I", true)
  | 33 => ("SecondChancesModel", "isThere", "[Z", true)
  | 34 => ("SecondChancesModel", "forms", "[I", true)
  | 35 => ("SecondChancesModel", "sizes", "[I", true)
  | 36 => ("SecondChancesModel", "items", "[I", true)
  | 37 => ("SecondChancesModel", "moved", "[I", true)
  | _ => ("SecondChancesModel", "finding", "I", false)
def tyX9 : Nat → FieldType := fun k => match k with
  | 0 => .array .int
  | 1 => .array .int
  | 2 => .int
  | 3 => .array .int
  | 4 => .array .int
  | 5 => .array .int
  | 6 => .array .int
  | 7 => .array .int
  | 8 => .int
  | 9 => .array .int
  | 10 => .array .int
  | 11 => .array .int
  | 12 => .array .int
  | 13 => .array .int
  | 14 => .array .int
  | 15 => .array .int
  | 16 => .array .int
  | 17 => .array .int
  | 18 => .array .int
  | 19 => .array .int
  | 20 => .array .int
  | 21 => .array .int
  | 22 => .int
  | 23 => .int
  | 24 => .int
  | 25 => .int
  | 26 => .int
  | 27 => .array .int
  | 28 => .array .int
  | 29 => .array .int
  | 30 => .int
  | 31 => .array .int
  | 32 => .array .int
  | 33 => .array .boolean
  | 34 => .array .int
  | 35 => .array .int
  | 36 => .array .int
  | 37 => .array .int
  | _ => .int
theorem nmX9 : ∀ a, a < 39 → ∀ b, b < 39 → a ≠ b → (TX9 a).2.1 ≠ (TX9 b).2.1 := by decide +kernel
theorem tyX9_ok : ∀ k, k < 39 → parseFieldDescriptor (TX9 k).2.2.1 = some (tyX9 k) := by decide +kernel
abbrev cX9_init : ByteArray := prog_11_method_1_code
def yX9_init : MethodName := ⟨RX9, "<init>", "()V"⟩
abbrev cX9_in : ByteArray := prog_11_method_3_code
def yX9_in : MethodName := ⟨RX9, "in", "(III)Z"⟩
abbrev cX9_isIn : ByteArray := prog_11_method_4_code
def yX9_isIn : MethodName := ⟨RX9, "isIn", "(II)Z"⟩
abbrev cX9_ones : ByteArray := prog_11_method_5_code
def yX9_ones : MethodName := ⟨RX9, "ones", "(I)I"⟩
abbrev cX9_no : ByteArray := prog_11_method_6_code
def yX9_no : MethodName := ⟨RX9, "no", "(I)J"⟩
abbrev cX9_lowest : ByteArray := prog_11_method_7_code
def yX9_lowest : MethodName := ⟨RX9, "lowest", "(JJI)J"⟩
abbrev cX9_choose : ByteArray := prog_11_method_8_code
def yX9_choose : MethodName := ⟨RX9, "choose", "(II)J"⟩
abbrev cX9_type : ByteArray := prog_11_method_9_code
def yX9_type : MethodName := ⟨RX9, "type", "(II)I"⟩
abbrev cX9_wipe : ByteArray := prog_11_method_10_code
def yX9_wipe : MethodName := ⟨RX9, "wipe", "(I)I"⟩
abbrev cX9_byteAt : ByteArray := prog_11_method_11_code
def yX9_byteAt : MethodName := ⟨RX9, "byteAt", "(II)I"⟩
abbrev cX9_kindBy : ByteArray := prog_11_method_12_code
def yX9_kindBy : MethodName := ⟨RX9, "kindBy", "(I)I"⟩
abbrev cX9_readsDeeds : ByteArray := prog_11_method_13_code
def yX9_readsDeeds : MethodName := ⟨RX9, "readsDeeds", "()I"⟩
abbrev cX9_noRules : ByteArray := prog_11_method_14_code
def yX9_noRules : MethodName := ⟨RX9, "noRules", "()V"⟩
abbrev cX9_readsRules : ByteArray := prog_11_method_15_code
def yX9_readsRules : MethodName := ⟨RX9, "readsRules", "()I"⟩
abbrev cX9_faultOf : ByteArray := prog_11_method_16_code
def yX9_faultOf : MethodName := ⟨RX9, "faultOf", "(I)I"⟩
abbrev cX9_reads : ByteArray := prog_11_method_17_code
def yX9_reads : MethodName := ⟨RX9, "reads", "()V"⟩
abbrev cX9_fault : ByteArray := prog_11_method_18_code
def yX9_fault : MethodName := ⟨RX9, "fault", "(I)I"⟩
abbrev cX9_isDeed : ByteArray := prog_11_method_19_code
def yX9_isDeed : MethodName := ⟨RX9, "isDeed", "(I)Z"⟩
abbrev cX9_deedOf : ByteArray := prog_11_method_20_code
def yX9_deedOf : MethodName := ⟨RX9, "deedOf", "(II)I"⟩
abbrev cX9_deed : ByteArray := prog_11_method_21_code
def yX9_deed : MethodName := ⟨RX9, "deed", "(II)I"⟩
abbrev cX9_ruleOf : ByteArray := prog_11_method_22_code
def yX9_ruleOf : MethodName := ⟨RX9, "ruleOf", "(II)I"⟩
abbrev cX9_rule : ByteArray := prog_11_method_23_code
def yX9_rule : MethodName := ⟨RX9, "rule", "(II)I"⟩
abbrev cX9_isPerson : ByteArray := prog_11_method_24_code
def yX9_isPerson : MethodName := ⟨RX9, "isPerson", "(I)Z"⟩
abbrev cX9_isHour : ByteArray := prog_11_method_25_code
def yX9_isHour : MethodName := ⟨RX9, "isHour", "(I)Z"⟩
abbrev cX9_person : ByteArray := prog_11_method_26_code
def yX9_person : MethodName := ⟨RX9, "person", "(III)I"⟩
abbrev cX9_weather : ByteArray := prog_11_method_27_code
def yX9_weather : MethodName := ⟨RX9, "weather", "(II)I"⟩
abbrev cX9_set : ByteArray := prog_11_method_28_code
def yX9_set : MethodName := ⟨RX9, "set", "(II)I"⟩
abbrev cX9_read : ByteArray := prog_11_method_29_code
def yX9_read : MethodName := ⟨RX9, "read", "(I)I"⟩
abbrev cX9_needs : ByteArray := prog_11_method_30_code
def yX9_needs : MethodName := ⟨RX9, "needs", "(I)I"⟩
abbrev cX9_isTurned : ByteArray := prog_11_method_31_code
def yX9_isTurned : MethodName := ⟨RX9, "isTurned", "(II)Z"⟩
abbrev cX9_comesOf : ByteArray := prog_11_method_32_code
def yX9_comesOf : MethodName := ⟨RX9, "comesOf", "(II)I"⟩
abbrev cX9_canOf : ByteArray := prog_11_method_33_code
def yX9_canOf : MethodName := ⟨RX9, "canOf", "(II)I"⟩
abbrev cX9_can : ByteArray := prog_11_method_34_code
def yX9_can : MethodName := ⟨RX9, "can", "(II)I"⟩
abbrev cX9_hoursOf : ByteArray := prog_11_method_35_code
def yX9_hoursOf : MethodName := ⟨RX9, "hoursOf", "(I)I"⟩
abbrev cX9_hours : ByteArray := prog_11_method_36_code
def yX9_hours : MethodName := ⟨RX9, "hours", "(I)I"⟩
abbrev cX9_comes : ByteArray := prog_11_method_37_code
def yX9_comes : MethodName := ⟨RX9, "comes", "(II)I"⟩
abbrev cX9_pricesOf : ByteArray := prog_11_method_38_code
def yX9_pricesOf : MethodName := ⟨RX9, "pricesOf", "(I)I"⟩
abbrev cX9_costsOf : ByteArray := prog_11_method_39_code
def yX9_costsOf : MethodName := ⟨RX9, "costsOf", "(II)I"⟩
abbrev cX9_costs : ByteArray := prog_11_method_40_code
def yX9_costs : MethodName := ⟨RX9, "costs", "(II)I"⟩
abbrev cX9_costTogether : ByteArray := prog_11_method_41_code
def yX9_costTogether : MethodName := ⟨RX9, "costTogether", "(II)I"⟩
abbrev cX9_worthBy : ByteArray := prog_11_method_42_code
def yX9_worthBy : MethodName := ⟨RX9, "worthBy", "(I)I"⟩
abbrev cX9_bestOf : ByteArray := prog_11_method_43_code
def yX9_bestOf : MethodName := ⟨RX9, "bestOf", "(I)V"⟩
abbrev cX9_laysMost : ByteArray := prog_11_method_44_code
def yX9_laysMost : MethodName := ⟨RX9, "laysMost", "()V"⟩
abbrev cX9_most : ByteArray := prog_11_method_45_code
def yX9_most : MethodName := ⟨RX9, "most", "(I)I"⟩
abbrev cX9_when : ByteArray := prog_11_method_46_code
def yX9_when : MethodName := ⟨RX9, "when", "(I)I"⟩
abbrev cX9_planCostOf : ByteArray := prog_11_method_47_code
def yX9_planCostOf : MethodName := ⟨RX9, "planCostOf", "(I)I"⟩
abbrev cX9_planOf : ByteArray := prog_11_method_48_code
def yX9_planOf : MethodName := ⟨RX9, "planOf", "(II)I"⟩
abbrev cX9_plan : ByteArray := prog_11_method_49_code
def yX9_plan : MethodName := ⟨RX9, "plan", "(II)I"⟩
abbrev cX9_askedOf : ByteArray := prog_11_method_50_code
def yX9_askedOf : MethodName := ⟨RX9, "askedOf", "(II)I"⟩
abbrev cX9_asked : ByteArray := prog_11_method_51_code
def yX9_asked : MethodName := ⟨RX9, "asked", "(II)I"⟩
abbrev cX9_crowdOf : ByteArray := prog_11_method_52_code
def yX9_crowdOf : MethodName := ⟨RX9, "crowdOf", "(I)I"⟩
abbrev cX9_crowd : ByteArray := prog_11_method_53_code
def yX9_crowd : MethodName := ⟨RX9, "crowd", "(I)I"⟩
abbrev cX9_likenessOf : ByteArray := prog_11_method_54_code
def yX9_likenessOf : MethodName := ⟨RX9, "likenessOf", "(II)I"⟩
abbrev cX9_likeness : ByteArray := prog_11_method_55_code
def yX9_likeness : MethodName := ⟨RX9, "likeness", "(II)I"⟩
abbrev cX9_oddsOf : ByteArray := prog_11_method_56_code
def yX9_oddsOf : MethodName := ⟨RX9, "oddsOf", "(III)J"⟩
abbrev cX9_odds : ByteArray := prog_11_method_57_code
def yX9_odds : MethodName := ⟨RX9, "odds", "(III)J"⟩
abbrev cX9_seen : ByteArray := prog_11_method_58_code
def yX9_seen : MethodName := ⟨RX9, "seen", "(III)I"⟩
abbrev cX9_areFalse : ByteArray := prog_11_method_59_code
def yX9_areFalse : MethodName := ⟨RX9, "areFalse", "(II)Z"⟩
abbrev cX9_isSight : ByteArray := prog_11_method_60_code
def yX9_isSight : MethodName := ⟨RX9, "isSight", "(I)Z"⟩
abbrev cX9_isFalse : ByteArray := prog_11_method_61_code
def yX9_isFalse : MethodName := ⟨RX9, "isFalse", "(II)I"⟩
abbrev cX9_hatsOf : ByteArray := prog_11_method_62_code
def yX9_hatsOf : MethodName := ⟨RX9, "hatsOf", "(I)I"⟩
abbrev cX9_hats : ByteArray := prog_11_method_63_code
def yX9_hats : MethodName := ⟨RX9, "hats", "(I)I"⟩
abbrev cX9_after : ByteArray := prog_11_method_64_code
def yX9_after : MethodName := ⟨RX9, "after", "(II)I"⟩
abbrev cX9_forget : ByteArray := prog_11_method_65_code
def yX9_forget : MethodName := ⟨RX9, "forget", "(I)I"⟩
abbrev cX9_sparedOf : ByteArray := prog_11_method_66_code
def yX9_sparedOf : MethodName := ⟨RX9, "sparedOf", "(I)I"⟩
abbrev cX9_allDeeds : ByteArray := prog_11_method_67_code
def yX9_allDeeds : MethodName := ⟨RX9, "allDeeds", "()I"⟩
abbrev cX9_spared : ByteArray := prog_11_method_68_code
def yX9_spared : MethodName := ⟨RX9, "spared", "(I)I"⟩
abbrev cX9_bestNow : ByteArray := prog_11_method_69_code
def yX9_bestNow : MethodName := ⟨RX9, "bestNow", "()I"⟩
abbrev cX9_best : ByteArray := prog_11_method_70_code
def yX9_best : MethodName := ⟨RX9, "best", "()I"⟩
abbrev cX9_regretsOf : ByteArray := prog_11_method_71_code
def yX9_regretsOf : MethodName := ⟨RX9, "regretsOf", "(II)J"⟩
abbrev cX9_regrets : ByteArray := prog_11_method_72_code
def yX9_regrets : MethodName := ⟨RX9, "regrets", "(II)J"⟩
abbrev cX9_meets : ByteArray := prog_11_method_73_code
def yX9_meets : MethodName := ⟨RX9, "meets", "(I)I"⟩
abbrev cX9_isSheet : ByteArray := prog_11_method_74_code
def yX9_isSheet : MethodName := ⟨RX9, "isSheet", "(I)Z"⟩
abbrev cX9_sheet : ByteArray := prog_11_method_75_code
def yX9_sheet : MethodName := ⟨RX9, "sheet", "(III)I"⟩
abbrev cX9_lose : ByteArray := prog_11_method_76_code
def yX9_lose : MethodName := ⟨RX9, "lose", "(I)I"⟩
abbrev cX9_lacks : ByteArray := prog_11_method_77_code
def yX9_lacks : MethodName := ⟨RX9, "lacks", "(III)I"⟩
abbrev cX9_keep : ByteArray := prog_11_method_78_code
def yX9_keep : MethodName := ⟨RX9, "keep", "(III)V"⟩
abbrev cX9_put : ByteArray := prog_11_method_79_code
def yX9_put : MethodName := ⟨RX9, "put", "(IIII)I"⟩
abbrev cX9_get : ByteArray := prog_11_method_80_code
def yX9_get : MethodName := ⟨RX9, "get", "(III)I"⟩
abbrev cX9_copy : ByteArray := prog_11_method_81_code
def yX9_copy : MethodName := ⟨RX9, "copy", "(IIIII)I"⟩
abbrev cX9_write : ByteArray := prog_11_method_82_code
def yX9_write : MethodName := ⟨RX9, "write", "(I)I"⟩
abbrev cX9_sumOf : ByteArray := prog_11_method_83_code
def yX9_sumOf : MethodName := ⟨RX9, "sumOf", "(I)I"⟩
abbrev cX9_count : ByteArray := prog_11_method_84_code
def yX9_count : MethodName := ⟨RX9, "count", "(I)I"⟩
abbrev cX9_digest : ByteArray := prog_11_method_85_code
def yX9_digest : MethodName := ⟨RX9, "digest", "()J"⟩
def RJ6 : String := "java/lang/Integer"
abbrev cJ6_bitCount_0f7a4 : ByteArray := prog_12_method_49_code
def yJ6_bitCount_0f7a4 : MethodName := ⟨RJ6, "bitCount", "(I)I"⟩
def RJ9 : String := "java/lang/Math"
abbrev cJ9_abs_0f7a4 : ByteArray := prog_13_method_59_code
def yJ9_abs_0f7a4 : MethodName := ⟨RJ9, "abs", "(I)I"⟩
abbrev cJ9_max_7cf53 : ByteArray := prog_13_method_65_code
def yJ9_max_7cf53 : MethodName := ⟨RJ9, "max", "(II)I"⟩
abbrev cJ9_min_7cf53 : ByteArray := prog_13_method_69_code
def yJ9_min_7cf53 : MethodName := ⟨RJ9, "min", "(II)I"⟩
def RJ10 : String := "java/lang/System"
def RL : String := "SecondChancesLaw"
abbrev cL_law : ByteArray := code
def yL_law : MethodName := ⟨RL, "law", "([I)Z"⟩
abbrev vwCl : List vw_C := [(RX0, TX0, 11), (RX1, TX1, 3), (RX2, TX2, 9), (RX3, TX3, 3), (RX4, TX4, 8), (RX5, TX5, 10), (RX6, TX6, 4), (RX7, TX7, 7), (RX8, TX8, 11), (RX9, TX9, 39)]
end
section
theorem dX0_init_0 : decode cX0_init 0 = .ok (.aload_n 0, 1) := by decide +kernel
theorem dX0_init_1 : decode cX0_init 1 = .ok (.invokespecial 3, 3) := by decide +kernel
theorem dX0_init_4 : decode cX0_init 4 = .ok (.aload_n 0, 1) := by decide +kernel
theorem dX0_init_5 : decode cX0_init 5 = .ok (.bipush 8, 2) := by decide +kernel
theorem dX0_init_7 : decode cX0_init 7 = .ok (.newarray .int, 2) := by decide +kernel
theorem dX0_init_9 : decode cX0_init 9 = .ok (.putfield 9, 3) := by decide +kernel
theorem dX0_init_12 : decode cX0_init 12 = .ok (.aload_n 0, 1) := by decide +kernel
theorem dX0_init_13 : decode cX0_init 13 = .ok (.bipush 8, 2) := by decide +kernel
theorem dX0_init_15 : decode cX0_init 15 = .ok (.newarray .int, 2) := by decide +kernel
theorem dX0_init_17 : decode cX0_init 17 = .ok (.putfield 15, 3) := by decide +kernel
theorem dX0_init_20 : decode cX0_init 20 = .ok (.aload_n 0, 1) := by decide +kernel
theorem dX0_init_21 : decode cX0_init 21 = .ok (.bipush 8, 2) := by decide +kernel
theorem dX0_init_23 : decode cX0_init 23 = .ok (.newarray .int, 2) := by decide +kernel
theorem dX0_init_25 : decode cX0_init 25 = .ok (.putfield 18, 3) := by decide +kernel
theorem dX0_init_28 : decode cX0_init 28 = .ok (.aload_n 0, 1) := by decide +kernel
theorem dX0_init_29 : decode cX0_init 29 = .ok (.bipush 8, 2) := by decide +kernel
theorem dX0_init_31 : decode cX0_init 31 = .ok (.newarray .int, 2) := by decide +kernel
theorem dX0_init_33 : decode cX0_init 33 = .ok (.putfield 21, 3) := by decide +kernel
theorem dX0_init_36 : decode cX0_init 36 = .ok (.aload_n 0, 1) := by decide +kernel
theorem dX0_init_37 : decode cX0_init 37 = .ok (.bipush 8, 2) := by decide +kernel
theorem dX0_init_39 : decode cX0_init 39 = .ok (.newarray .int, 2) := by decide +kernel
theorem dX0_init_41 : decode cX0_init 41 = .ok (.putfield 24, 3) := by decide +kernel
theorem dX0_init_44 : decode cX0_init 44 = .ok (.aload_n 0, 1) := by decide +kernel
theorem dX0_init_45 : decode cX0_init 45 = .ok (.iconst (-1), 1) := by decide +kernel
theorem dX0_init_46 : decode cX0_init 46 = .ok (.putfield 27, 3) := by decide +kernel
theorem dX0_init_49 : decode cX0_init 49 = .ok (.aload_n 0, 1) := by decide +kernel
theorem dX0_init_50 : decode cX0_init 50 = .ok (.iconst (-1), 1) := by decide +kernel
theorem dX0_init_51 : decode cX0_init 51 = .ok (.putfield 31, 3) := by decide +kernel
theorem dX0_init_54 : decode cX0_init 54 = .ok (.return_, 1) := by decide +kernel
theorem dX0_take_0 : decode cX0_take 0 = .ok (.aload_n 0, 1) := by decide +kernel
theorem dX0_take_1 : decode cX0_take 1 = .ok (.getfield 31, 3) := by decide +kernel
theorem dX0_take_4 : decode cX0_take 4 = .ok (.iconst (-1), 1) := by decide +kernel
theorem dX0_take_5 : decode cX0_take 5 = .ok (.if_icmp .ne 19, 3) := by decide +kernel
theorem dX0_take_8 : decode cX0_take 8 = .ok (.aload_n 0, 1) := by decide +kernel
theorem dX0_take_9 : decode cX0_take 9 = .ok (.iload_n 1, 1) := by decide +kernel
theorem dX0_take_10 : decode cX0_take 10 = .ok (.invokevirtual 34, 3) := by decide +kernel
theorem dX0_take_13 : decode cX0_take 13 = .ok (.ifCond .ne 11, 3) := by decide +kernel
theorem dX0_take_16 : decode cX0_take 16 = .ok (.aload_n 0, 1) := by decide +kernel
theorem dX0_take_17 : decode cX0_take 17 = .ok (.aload_n 0, 1) := by decide +kernel
theorem dX0_take_18 : decode cX0_take 18 = .ok (.getfield 38, 3) := by decide +kernel
theorem dX0_take_21 : decode cX0_take 21 = .ok (.putfield 31, 3) := by decide +kernel
theorem dX0_take_24 : decode cX0_take 24 = .ok (.aload_n 0, 1) := by decide +kernel
theorem dX0_take_25 : decode cX0_take 25 = .ok (.dup, 1) := by decide +kernel
theorem dX0_take_26 : decode cX0_take 26 = .ok (.getfield 38, 3) := by decide +kernel
theorem dX0_take_29 : decode cX0_take 29 = .ok (.iconst 1, 1) := by decide +kernel
theorem dX0_take_30 : decode cX0_take 30 = .ok (.iadd, 1) := by decide +kernel
theorem dX0_take_31 : decode cX0_take 31 = .ok (.putfield 38, 3) := by decide +kernel
theorem dX0_take_34 : decode cX0_take 34 = .ok (.aload_n 0, 1) := by decide +kernel
theorem dX0_take_35 : decode cX0_take 35 = .ok (.getfield 41, 3) := by decide +kernel
theorem dX0_take_38 : decode cX0_take 38 = .ok (.bipush 8, 2) := by decide +kernel
theorem dX0_take_40 : decode cX0_take 40 = .ok (.if_icmp .ge 27, 3) := by decide +kernel
theorem dX0_take_43 : decode cX0_take 43 = .ok (.aload_n 0, 1) := by decide +kernel
theorem dX0_take_44 : decode cX0_take 44 = .ok (.getfield 44, 3) := by decide +kernel
theorem dX0_take_47 : decode cX0_take 47 = .ok (.iconst 4, 1) := by decide +kernel
theorem dX0_take_48 : decode cX0_take 48 = .ok (.if_icmp .ne 19, 3) := by decide +kernel
theorem dX0_take_51 : decode cX0_take 51 = .ok (.aload_n 0, 1) := by decide +kernel
theorem dX0_take_52 : decode cX0_take 52 = .ok (.getfield 24, 3) := by decide +kernel
theorem dX0_take_55 : decode cX0_take 55 = .ok (.aload_n 0, 1) := by decide +kernel
theorem dX0_take_56 : decode cX0_take 56 = .ok (.getfield 41, 3) := by decide +kernel
theorem dX0_take_59 : decode cX0_take 59 = .ok (.iaload, 1) := by decide +kernel
theorem dX0_take_60 : decode cX0_take 60 = .ok (.ifCond .eq 7, 3) := by decide +kernel
theorem dX0_take_63 : decode cX0_take 63 = .ok (.iconst 1, 1) := by decide +kernel
theorem dX0_take_64 : decode cX0_take 64 = .ok (.goto 4, 3) := by decide +kernel
theorem dX0_take_67 : decode cX0_take 67 = .ok (.iconst 0, 1) := by decide +kernel
theorem dX0_take_68 : decode cX0_take 68 = .ok (.istore_n 2, 1) := by decide +kernel
theorem dX0_take_69 : decode cX0_take 69 = .ok (.aload_n 0, 1) := by decide +kernel
theorem dX0_take_70 : decode cX0_take 70 = .ok (.aload_n 0, 1) := by decide +kernel
theorem dX0_take_71 : decode cX0_take 71 = .ok (.getfield 31, 3) := by decide +kernel
theorem dX0_take_74 : decode cX0_take 74 = .ok (.iconst (-1), 1) := by decide +kernel
theorem dX0_take_75 : decode cX0_take 75 = .ok (.if_icmp .ne 7, 3) := by decide +kernel
theorem dX0_take_78 : decode cX0_take 78 = .ok (.iload_n 2, 1) := by decide +kernel
theorem dX0_take_79 : decode cX0_take 79 = .ok (.ifCond .eq 10, 3) := by decide +kernel
theorem dX0_take_82 : decode cX0_take 82 = .ok (.aload_n 0, 1) := by decide +kernel
theorem dX0_take_83 : decode cX0_take 83 = .ok (.getfield 31, 3) := by decide +kernel
theorem dX0_take_86 : decode cX0_take 86 = .ok (.goto 7, 3) := by decide +kernel
theorem dX0_take_89 : decode cX0_take 89 = .ok (.aload_n 0, 1) := by decide +kernel
theorem dX0_take_90 : decode cX0_take 90 = .ok (.getfield 38, 3) := by decide +kernel
theorem dX0_take_93 : decode cX0_take 93 = .ok (.putfield 27, 3) := by decide +kernel
theorem dX0_take_96 : decode cX0_take 96 = .ok (.aload_n 0, 1) := by decide +kernel
theorem dX0_take_97 : decode cX0_take 97 = .ok (.aload_n 0, 1) := by decide +kernel
theorem dX0_take_98 : decode cX0_take 98 = .ok (.getfield 27, 3) := by decide +kernel
theorem dX0_take_101 : decode cX0_take 101 = .ok (.iconst (-1), 1) := by decide +kernel
theorem dX0_take_102 : decode cX0_take 102 = .ok (.if_icmp .ne 12, 3) := by decide +kernel
theorem dX0_take_105 : decode cX0_take 105 = .ok (.aload_n 0, 1) := by decide +kernel
theorem dX0_take_106 : decode cX0_take 106 = .ok (.getfield 41, 3) := by decide +kernel
theorem dX0_take_109 : decode cX0_take 109 = .ok (.iconst 1, 1) := by decide +kernel
theorem dX0_take_110 : decode cX0_take 110 = .ok (.iadd, 1) := by decide +kernel
theorem dX0_take_111 : decode cX0_take 111 = .ok (.goto 4, 3) := by decide +kernel
theorem dX0_take_114 : decode cX0_take 114 = .ok (.iconst 0, 1) := by decide +kernel
theorem dX0_take_115 : decode cX0_take 115 = .ok (.putfield 47, 3) := by decide +kernel
theorem dX0_take_118 : decode cX0_take 118 = .ok (.aload_n 0, 1) := by decide +kernel
theorem dX0_take_119 : decode cX0_take 119 = .ok (.getfield 38, 3) := by decide +kernel
theorem dX0_take_122 : decode cX0_take 122 = .ok (.ireturn, 1) := by decide +kernel
theorem dX0_clear_0 : decode cX0_clear 0 = .ok (.aload_n 0, 1) := by decide +kernel
theorem dX0_clear_1 : decode cX0_clear 1 = .ok (.getfield 38, 3) := by decide +kernel
theorem dX0_clear_4 : decode cX0_clear 4 = .ok (.istore_n 1, 1) := by decide +kernel
theorem dX0_clear_5 : decode cX0_clear 5 = .ok (.aload_n 0, 1) := by decide +kernel
theorem dX0_clear_6 : decode cX0_clear 6 = .ok (.iconst 0, 1) := by decide +kernel
theorem dX0_clear_7 : decode cX0_clear 7 = .ok (.putfield 38, 3) := by decide +kernel
theorem dX0_clear_10 : decode cX0_clear 10 = .ok (.aload_n 0, 1) := by decide +kernel
theorem dX0_clear_11 : decode cX0_clear 11 = .ok (.iconst 0, 1) := by decide +kernel
theorem dX0_clear_12 : decode cX0_clear 12 = .ok (.putfield 47, 3) := by decide +kernel
theorem dX0_clear_15 : decode cX0_clear 15 = .ok (.aload_n 0, 1) := by decide +kernel
theorem dX0_clear_16 : decode cX0_clear 16 = .ok (.iconst (-1), 1) := by decide +kernel
theorem dX0_clear_17 : decode cX0_clear 17 = .ok (.putfield 27, 3) := by decide +kernel
theorem dX0_clear_20 : decode cX0_clear 20 = .ok (.aload_n 0, 1) := by decide +kernel
theorem dX0_clear_21 : decode cX0_clear 21 = .ok (.iconst 0, 1) := by decide +kernel
theorem dX0_clear_22 : decode cX0_clear 22 = .ok (.putfield 41, 3) := by decide +kernel
theorem dX0_clear_25 : decode cX0_clear 25 = .ok (.aload_n 0, 1) := by decide +kernel
theorem dX0_clear_26 : decode cX0_clear 26 = .ok (.iconst 0, 1) := by decide +kernel
theorem dX0_clear_27 : decode cX0_clear 27 = .ok (.putfield 44, 3) := by decide +kernel
theorem dX0_clear_30 : decode cX0_clear 30 = .ok (.aload_n 0, 1) := by decide +kernel
theorem dX0_clear_31 : decode cX0_clear 31 = .ok (.iconst (-1), 1) := by decide +kernel
theorem dX0_clear_32 : decode cX0_clear 32 = .ok (.putfield 31, 3) := by decide +kernel
theorem dX0_clear_35 : decode cX0_clear 35 = .ok (.iload_n 1, 1) := by decide +kernel
theorem dX0_clear_36 : decode cX0_clear 36 = .ok (.ireturn, 1) := by decide +kernel
theorem dX0_goesOn_0 : decode cX0_goesOn 0 = .ok (.aload_n 0, 1) := by decide +kernel
theorem dX0_goesOn_1 : decode cX0_goesOn 1 = .ok (.getfield 41, 3) := by decide +kernel
theorem dX0_goesOn_4 : decode cX0_goesOn 4 = .ok (.bipush 8, 2) := by decide +kernel
theorem dX0_goesOn_6 : decode cX0_goesOn 6 = .ok (.if_icmp .lt 5, 3) := by decide +kernel
theorem dX0_goesOn_9 : decode cX0_goesOn 9 = .ok (.iconst 0, 1) := by decide +kernel
theorem dX0_goesOn_10 : decode cX0_goesOn 10 = .ok (.ireturn, 1) := by decide +kernel
theorem dX0_goesOn_11 : decode cX0_goesOn 11 = .ok (.aload_n 0, 1) := by decide +kernel
theorem dX0_goesOn_12 : decode cX0_goesOn 12 = .ok (.getfield 44, 3) := by decide +kernel
theorem dX0_goesOn_15 : decode cX0_goesOn 15 = .ok (.tableswitch 113 0 3 #[29, 52, 67, 97], 29) := by decide +kernel
theorem dX0_goesOn_44 : decode cX0_goesOn 44 = .ok (.aload_n 0, 1) := by decide +kernel
theorem dX0_goesOn_45 : decode cX0_goesOn 45 = .ok (.getfield 24, 3) := by decide +kernel
theorem dX0_goesOn_48 : decode cX0_goesOn 48 = .ok (.aload_n 0, 1) := by decide +kernel
theorem dX0_goesOn_49 : decode cX0_goesOn 49 = .ok (.getfield 41, 3) := by decide +kernel
theorem dX0_goesOn_52 : decode cX0_goesOn 52 = .ok (.iconst 0, 1) := by decide +kernel
theorem dX0_goesOn_53 : decode cX0_goesOn 53 = .ok (.iastore, 1) := by decide +kernel
theorem dX0_goesOn_54 : decode cX0_goesOn 54 = .ok (.aload_n 0, 1) := by decide +kernel
theorem dX0_goesOn_55 : decode cX0_goesOn 55 = .ok (.aload_n 0, 1) := by decide +kernel
theorem dX0_goesOn_56 : decode cX0_goesOn 56 = .ok (.getfield 9, 3) := by decide +kernel
theorem dX0_goesOn_59 : decode cX0_goesOn 59 = .ok (.iload_n 1, 1) := by decide +kernel
theorem dX0_goesOn_60 : decode cX0_goesOn 60 = .ok (.invokestatic 50, 3) := by decide +kernel
theorem dX0_goesOn_63 : decode cX0_goesOn 63 = .ok (.invokevirtual 54, 3) := by decide +kernel
theorem dX0_goesOn_66 : decode cX0_goesOn 66 = .ok (.ireturn, 1) := by decide +kernel
theorem dX0_goesOn_67 : decode cX0_goesOn 67 = .ok (.aload_n 0, 1) := by decide +kernel
theorem dX0_goesOn_68 : decode cX0_goesOn 68 = .ok (.aload_n 0, 1) := by decide +kernel
theorem dX0_goesOn_69 : decode cX0_goesOn 69 = .ok (.getfield 15, 3) := by decide +kernel
theorem dX0_goesOn_72 : decode cX0_goesOn 72 = .ok (.iload_n 1, 1) := by decide +kernel
theorem dX0_goesOn_73 : decode cX0_goesOn 73 = .ok (.iconst 0, 1) := by decide +kernel
theorem dX0_goesOn_74 : decode cX0_goesOn 74 = .ok (.iconst 5, 1) := by decide +kernel
theorem dX0_goesOn_75 : decode cX0_goesOn 75 = .ok (.invokestatic 58, 3) := by decide +kernel
theorem dX0_goesOn_78 : decode cX0_goesOn 78 = .ok (.invokevirtual 54, 3) := by decide +kernel
theorem dX0_goesOn_81 : decode cX0_goesOn 81 = .ok (.ireturn, 1) := by decide +kernel
theorem dX0_goesOn_82 : decode cX0_goesOn 82 = .ok (.aload_n 0, 1) := by decide +kernel
theorem dX0_goesOn_83 : decode cX0_goesOn 83 = .ok (.aload_n 0, 1) := by decide +kernel
theorem dX0_goesOn_84 : decode cX0_goesOn 84 = .ok (.getfield 18, 3) := by decide +kernel
theorem dX0_goesOn_87 : decode cX0_goesOn 87 = .ok (.iload_n 1, 1) := by decide +kernel
theorem dX0_goesOn_88 : decode cX0_goesOn 88 = .ok (.bipush 114, 2) := by decide +kernel
theorem dX0_goesOn_90 : decode cX0_goesOn 90 = .ok (.if_icmp .ne 7, 3) := by decide +kernel
theorem dX0_goesOn_93 : decode cX0_goesOn 93 = .ok (.iconst 1, 1) := by decide +kernel
theorem dX0_goesOn_94 : decode cX0_goesOn 94 = .ok (.goto 14, 3) := by decide +kernel
theorem dX0_goesOn_97 : decode cX0_goesOn 97 = .ok (.iload_n 1, 1) := by decide +kernel
theorem dX0_goesOn_98 : decode cX0_goesOn 98 = .ok (.bipush 100, 2) := by decide +kernel
theorem dX0_goesOn_100 : decode cX0_goesOn 100 = .ok (.if_icmp .ne 7, 3) := by decide +kernel
theorem dX0_goesOn_103 : decode cX0_goesOn 103 = .ok (.iconst 0, 1) := by decide +kernel
theorem dX0_goesOn_104 : decode cX0_goesOn 104 = .ok (.goto 4, 3) := by decide +kernel
theorem dX0_goesOn_107 : decode cX0_goesOn 107 = .ok (.iconst (-1), 1) := by decide +kernel
theorem dX0_goesOn_108 : decode cX0_goesOn 108 = .ok (.invokevirtual 54, 3) := by decide +kernel
theorem dX0_goesOn_111 : decode cX0_goesOn 111 = .ok (.ireturn, 1) := by decide +kernel
theorem dX0_goesOn_112 : decode cX0_goesOn 112 = .ok (.aload_n 0, 1) := by decide +kernel
theorem dX0_goesOn_113 : decode cX0_goesOn 113 = .ok (.aload_n 0, 1) := by decide +kernel
theorem dX0_goesOn_114 : decode cX0_goesOn 114 = .ok (.getfield 21, 3) := by decide +kernel
theorem dX0_goesOn_117 : decode cX0_goesOn 117 = .ok (.iload_n 1, 1) := by decide +kernel
theorem dX0_goesOn_118 : decode cX0_goesOn 118 = .ok (.iconst 1, 1) := by decide +kernel
theorem dX0_goesOn_119 : decode cX0_goesOn 119 = .ok (.bipush 9, 2) := by decide +kernel
theorem dX0_goesOn_121 : decode cX0_goesOn 121 = .ok (.invokestatic 58, 3) := by decide +kernel
theorem dX0_goesOn_124 : decode cX0_goesOn 124 = .ok (.invokevirtual 54, 3) := by decide +kernel
theorem dX0_goesOn_127 : decode cX0_goesOn 127 = .ok (.ireturn, 1) := by decide +kernel
theorem dX0_goesOn_128 : decode cX0_goesOn 128 = .ok (.aload_n 0, 1) := by decide +kernel
theorem dX0_goesOn_129 : decode cX0_goesOn 129 = .ok (.iload_n 1, 1) := by decide +kernel
theorem dX0_goesOn_130 : decode cX0_goesOn 130 = .ok (.invokevirtual 62, 3) := by decide +kernel
theorem dX0_goesOn_133 : decode cX0_goesOn 133 = .ok (.ireturn, 1) := by decide +kernel
theorem dX0_takeInto_0 : decode cX0_takeInto 0 = .ok (.iload_n 2, 1) := by decide +kernel
theorem dX0_takeInto_1 : decode cX0_takeInto 1 = .ok (.iconst (-1), 1) := by decide +kernel
theorem dX0_takeInto_2 : decode cX0_takeInto 2 = .ok (.if_icmp .ne 5, 3) := by decide +kernel
theorem dX0_takeInto_5 : decode cX0_takeInto 5 = .ok (.iconst 0, 1) := by decide +kernel
theorem dX0_takeInto_6 : decode cX0_takeInto 6 = .ok (.ireturn, 1) := by decide +kernel
theorem dX0_takeInto_7 : decode cX0_takeInto 7 = .ok (.aload_n 1, 1) := by decide +kernel
theorem dX0_takeInto_8 : decode cX0_takeInto 8 = .ok (.aload_n 0, 1) := by decide +kernel
theorem dX0_takeInto_9 : decode cX0_takeInto 9 = .ok (.getfield 41, 3) := by decide +kernel
theorem dX0_takeInto_12 : decode cX0_takeInto 12 = .ok (.iload_n 2, 1) := by decide +kernel
theorem dX0_takeInto_13 : decode cX0_takeInto 13 = .ok (.iastore, 1) := by decide +kernel
theorem dX0_takeInto_14 : decode cX0_takeInto 14 = .ok (.aload_n 0, 1) := by decide +kernel
theorem dX0_takeInto_15 : decode cX0_takeInto 15 = .ok (.dup, 1) := by decide +kernel
theorem dX0_takeInto_16 : decode cX0_takeInto 16 = .ok (.getfield 44, 3) := by decide +kernel
theorem dX0_takeInto_19 : decode cX0_takeInto 19 = .ok (.iconst 1, 1) := by decide +kernel
theorem dX0_takeInto_20 : decode cX0_takeInto 20 = .ok (.iadd, 1) := by decide +kernel
theorem dX0_takeInto_21 : decode cX0_takeInto 21 = .ok (.putfield 44, 3) := by decide +kernel
theorem dX0_takeInto_24 : decode cX0_takeInto 24 = .ok (.iconst 1, 1) := by decide +kernel
theorem dX0_takeInto_25 : decode cX0_takeInto 25 = .ok (.ireturn, 1) := by decide +kernel
theorem dX0_takeWho_0 : decode cX0_takeWho 0 = .ok (.iload_n 1, 1) := by decide +kernel
theorem dX0_takeWho_1 : decode cX0_takeWho 1 = .ok (.bipush 59, 2) := by decide +kernel
theorem dX0_takeWho_3 : decode cX0_takeWho 3 = .ok (.if_icmp .ne 32, 3) := by decide +kernel
theorem dX0_takeWho_6 : decode cX0_takeWho 6 = .ok (.aload_n 0, 1) := by decide +kernel
theorem dX0_takeWho_7 : decode cX0_takeWho 7 = .ok (.getfield 24, 3) := by decide +kernel
theorem dX0_takeWho_10 : decode cX0_takeWho 10 = .ok (.aload_n 0, 1) := by decide +kernel
theorem dX0_takeWho_11 : decode cX0_takeWho 11 = .ok (.getfield 41, 3) := by decide +kernel
theorem dX0_takeWho_14 : decode cX0_takeWho 14 = .ok (.iaload, 1) := by decide +kernel
theorem dX0_takeWho_15 : decode cX0_takeWho 15 = .ok (.ifCond .eq 20, 3) := by decide +kernel
theorem dX0_takeWho_18 : decode cX0_takeWho 18 = .ok (.aload_n 0, 1) := by decide +kernel
theorem dX0_takeWho_19 : decode cX0_takeWho 19 = .ok (.dup, 1) := by decide +kernel
theorem dX0_takeWho_20 : decode cX0_takeWho 20 = .ok (.getfield 41, 3) := by decide +kernel
theorem dX0_takeWho_23 : decode cX0_takeWho 23 = .ok (.iconst 1, 1) := by decide +kernel
theorem dX0_takeWho_24 : decode cX0_takeWho 24 = .ok (.iadd, 1) := by decide +kernel
theorem dX0_takeWho_25 : decode cX0_takeWho 25 = .ok (.putfield 41, 3) := by decide +kernel
theorem dX0_takeWho_28 : decode cX0_takeWho 28 = .ok (.aload_n 0, 1) := by decide +kernel
theorem dX0_takeWho_29 : decode cX0_takeWho 29 = .ok (.iconst 0, 1) := by decide +kernel
theorem dX0_takeWho_30 : decode cX0_takeWho 30 = .ok (.putfield 44, 3) := by decide +kernel
theorem dX0_takeWho_33 : decode cX0_takeWho 33 = .ok (.iconst 1, 1) := by decide +kernel
theorem dX0_takeWho_34 : decode cX0_takeWho 34 = .ok (.ireturn, 1) := by decide +kernel
theorem dX0_takeWho_35 : decode cX0_takeWho 35 = .ok (.iload_n 1, 1) := by decide +kernel
theorem dX0_takeWho_36 : decode cX0_takeWho 36 = .ok (.bipush 65, 2) := by decide +kernel
theorem dX0_takeWho_38 : decode cX0_takeWho 38 = .ok (.isub, 1) := by decide +kernel
theorem dX0_takeWho_39 : decode cX0_takeWho 39 = .ok (.istore_n 2, 1) := by decide +kernel
theorem dX0_takeWho_40 : decode cX0_takeWho 40 = .ok (.iload_n 2, 1) := by decide +kernel
theorem dX0_takeWho_41 : decode cX0_takeWho 41 = .ok (.bipush 7, 2) := by decide +kernel
theorem dX0_takeWho_43 : decode cX0_takeWho 43 = .ok (.invokestatic 65, 3) := by decide +kernel
theorem dX0_takeWho_46 : decode cX0_takeWho 46 = .ok (.ifCond .eq 19, 3) := by decide +kernel
theorem dX0_takeWho_49 : decode cX0_takeWho 49 = .ok (.aload_n 0, 1) := by decide +kernel
theorem dX0_takeWho_50 : decode cX0_takeWho 50 = .ok (.getfield 24, 3) := by decide +kernel
theorem dX0_takeWho_53 : decode cX0_takeWho 53 = .ok (.aload_n 0, 1) := by decide +kernel
theorem dX0_takeWho_54 : decode cX0_takeWho 54 = .ok (.getfield 41, 3) := by decide +kernel
theorem dX0_takeWho_57 : decode cX0_takeWho 57 = .ok (.iaload, 1) := by decide +kernel
theorem dX0_takeWho_58 : decode cX0_takeWho 58 = .ok (.iload_n 2, 1) := by decide +kernel
theorem dX0_takeWho_59 : decode cX0_takeWho 59 = .ok (.invokestatic 69, 3) := by decide +kernel
theorem dX0_takeWho_62 : decode cX0_takeWho 62 = .ok (.ifCond .eq 5, 3) := by decide +kernel
theorem dX0_takeWho_65 : decode cX0_takeWho 65 = .ok (.iconst 0, 1) := by decide +kernel
theorem dX0_takeWho_66 : decode cX0_takeWho 66 = .ok (.ireturn, 1) := by decide +kernel
theorem dX0_takeWho_67 : decode cX0_takeWho 67 = .ok (.aload_n 0, 1) := by decide +kernel
theorem dX0_takeWho_68 : decode cX0_takeWho 68 = .ok (.getfield 24, 3) := by decide +kernel
theorem dX0_takeWho_71 : decode cX0_takeWho 71 = .ok (.aload_n 0, 1) := by decide +kernel
theorem dX0_takeWho_72 : decode cX0_takeWho 72 = .ok (.getfield 41, 3) := by decide +kernel
theorem dX0_takeWho_75 : decode cX0_takeWho 75 = .ok (.dup2, 1) := by decide +kernel
theorem dX0_takeWho_76 : decode cX0_takeWho 76 = .ok (.iaload, 1) := by decide +kernel
theorem dX0_takeWho_77 : decode cX0_takeWho 77 = .ok (.iconst 1, 1) := by decide +kernel
theorem dX0_takeWho_78 : decode cX0_takeWho 78 = .ok (.iload_n 2, 1) := by decide +kernel
theorem dX0_takeWho_79 : decode cX0_takeWho 79 = .ok (.ishl, 1) := by decide +kernel
theorem dX0_takeWho_80 : decode cX0_takeWho 80 = .ok (.ior, 1) := by decide +kernel
theorem dX0_takeWho_81 : decode cX0_takeWho 81 = .ok (.iastore, 1) := by decide +kernel
theorem dX0_takeWho_82 : decode cX0_takeWho 82 = .ok (.iconst 1, 1) := by decide +kernel
theorem dX0_takeWho_83 : decode cX0_takeWho 83 = .ok (.ireturn, 1) := by decide +kernel
theorem dX0_allBits_0 : decode cX0_allBits 0 = .ok (.iconst 1, 1) := by decide +kernel
theorem dX0_allBits_1 : decode cX0_allBits 1 = .ok (.aload_n 0, 1) := by decide +kernel
theorem dX0_allBits_2 : decode cX0_allBits 2 = .ok (.getfield 47, 3) := by decide +kernel
theorem dX0_allBits_5 : decode cX0_allBits 5 = .ok (.ishl, 1) := by decide +kernel
theorem dX0_allBits_6 : decode cX0_allBits 6 = .ok (.iconst 1, 1) := by decide +kernel
theorem dX0_allBits_7 : decode cX0_allBits 7 = .ok (.isub, 1) := by decide +kernel
theorem dX0_allBits_8 : decode cX0_allBits 8 = .ok (.ireturn, 1) := by decide +kernel
theorem dX0_worthOf_0 : decode cX0_worthOf 0 = .ok (.iconst 0, 1) := by decide +kernel
theorem dX0_worthOf_1 : decode cX0_worthOf 1 = .ok (.istore_n 2, 1) := by decide +kernel
theorem dX0_worthOf_2 : decode cX0_worthOf 2 = .ok (.iconst 0, 1) := by decide +kernel
theorem dX0_worthOf_3 : decode cX0_worthOf 3 = .ok (.istore_n 3, 1) := by decide +kernel
theorem dX0_worthOf_4 : decode cX0_worthOf 4 = .ok (.iload_n 3, 1) := by decide +kernel
theorem dX0_worthOf_5 : decode cX0_worthOf 5 = .ok (.aload_n 0, 1) := by decide +kernel
theorem dX0_worthOf_6 : decode cX0_worthOf 6 = .ok (.getfield 47, 3) := by decide +kernel
theorem dX0_worthOf_9 : decode cX0_worthOf 9 = .ok (.if_icmp .ge 26, 3) := by decide +kernel
theorem dX0_worthOf_12 : decode cX0_worthOf 12 = .ok (.iload_n 1, 1) := by decide +kernel
theorem dX0_worthOf_13 : decode cX0_worthOf 13 = .ok (.iload_n 3, 1) := by decide +kernel
theorem dX0_worthOf_14 : decode cX0_worthOf 14 = .ok (.invokestatic 69, 3) := by decide +kernel
theorem dX0_worthOf_17 : decode cX0_worthOf 17 = .ok (.ifCond .eq 12, 3) := by decide +kernel
theorem dX0_worthOf_20 : decode cX0_worthOf 20 = .ok (.iload_n 2, 1) := by decide +kernel
theorem dX0_worthOf_21 : decode cX0_worthOf 21 = .ok (.aload_n 0, 1) := by decide +kernel
theorem dX0_worthOf_22 : decode cX0_worthOf 22 = .ok (.getfield 21, 3) := by decide +kernel
theorem dX0_worthOf_25 : decode cX0_worthOf 25 = .ok (.iload_n 3, 1) := by decide +kernel
theorem dX0_worthOf_26 : decode cX0_worthOf 26 = .ok (.iaload, 1) := by decide +kernel
theorem dX0_worthOf_27 : decode cX0_worthOf 27 = .ok (.iadd, 1) := by decide +kernel
theorem dX0_worthOf_28 : decode cX0_worthOf 28 = .ok (.istore_n 2, 1) := by decide +kernel
theorem dX0_worthOf_29 : decode cX0_worthOf 29 = .ok (.iinc 3 1, 3) := by decide +kernel
theorem dX0_worthOf_32 : decode cX0_worthOf 32 = .ok (.goto (-28), 3) := by decide +kernel
theorem dX0_worthOf_35 : decode cX0_worthOf 35 = .ok (.iload_n 2, 1) := by decide +kernel
theorem dX0_worthOf_36 : decode cX0_worthOf 36 = .ok (.ireturn, 1) := by decide +kernel
theorem dX1_init_0 : decode cX1_init 0 = .ok (.aload_n 0, 1) := by decide +kernel
theorem dX1_init_1 : decode cX1_init 1 = .ok (.invokespecial 3, 3) := by decide +kernel
theorem dX1_init_4 : decode cX1_init 4 = .ok (.aload_n 0, 1) := by decide +kernel
theorem dX1_init_5 : decode cX1_init 5 = .ok (.bipush 32, 2) := by decide +kernel
theorem dX1_init_7 : decode cX1_init 7 = .ok (.newarray .int, 2) := by decide +kernel
theorem dX1_init_9 : decode cX1_init 9 = .ok (.putfield 11, 3) := by decide +kernel
theorem dX1_init_12 : decode cX1_init 12 = .ok (.aload_n 0, 1) := by decide +kernel
theorem dX1_init_13 : decode cX1_init 13 = .ok (.bipush 8, 2) := by decide +kernel
theorem dX1_init_15 : decode cX1_init 15 = .ok (.newarray .int, 2) := by decide +kernel
theorem dX1_init_17 : decode cX1_init 17 = .ok (.putfield 15, 3) := by decide +kernel
theorem dX1_init_20 : decode cX1_init 20 = .ok (.aload_n 0, 1) := by decide +kernel
theorem dX1_init_21 : decode cX1_init 21 = .ok (.iconst 4, 1) := by decide +kernel
theorem dX1_init_22 : decode cX1_init 22 = .ok (.newarray .int, 2) := by decide +kernel
theorem dX1_init_24 : decode cX1_init 24 = .ok (.putfield 18, 3) := by decide +kernel
theorem dX1_init_27 : decode cX1_init 27 = .ok (.iconst 0, 1) := by decide +kernel
theorem dX1_init_28 : decode cX1_init 28 = .ok (.istore_n 1, 1) := by decide +kernel
theorem dX1_init_29 : decode cX1_init 29 = .ok (.iload_n 1, 1) := by decide +kernel
theorem dX1_init_30 : decode cX1_init 30 = .ok (.bipush 8, 2) := by decide +kernel
theorem dX1_init_32 : decode cX1_init 32 = .ok (.if_icmp .ge 44, 3) := by decide +kernel
theorem dX1_init_35 : decode cX1_init 35 = .ok (.aload_n 0, 1) := by decide +kernel
theorem dX1_init_36 : decode cX1_init 36 = .ok (.getfield 11, 3) := by decide +kernel
theorem dX1_init_39 : decode cX1_init 39 = .ok (.iload_n 1, 1) := by decide +kernel
theorem dX1_init_40 : decode cX1_init 40 = .ok (.iconst 4, 1) := by decide +kernel
theorem dX1_init_41 : decode cX1_init 41 = .ok (.imul, 1) := by decide +kernel
theorem dX1_init_42 : decode cX1_init 42 = .ok (.iconst 1, 1) := by decide +kernel
theorem dX1_init_43 : decode cX1_init 43 = .ok (.iadd, 1) := by decide +kernel
theorem dX1_init_44 : decode cX1_init 44 = .ok (.bipush 8, 2) := by decide +kernel
theorem dX1_init_46 : decode cX1_init 46 = .ok (.iastore, 1) := by decide +kernel
theorem dX1_init_47 : decode cX1_init 47 = .ok (.aload_n 0, 1) := by decide +kernel
theorem dX1_init_48 : decode cX1_init 48 = .ok (.getfield 11, 3) := by decide +kernel
theorem dX1_init_51 : decode cX1_init 51 = .ok (.iload_n 1, 1) := by decide +kernel
theorem dX1_init_52 : decode cX1_init 52 = .ok (.iconst 4, 1) := by decide +kernel
theorem dX1_init_53 : decode cX1_init 53 = .ok (.imul, 1) := by decide +kernel
theorem dX1_init_54 : decode cX1_init 54 = .ok (.iconst 2, 1) := by decide +kernel
theorem dX1_init_55 : decode cX1_init 55 = .ok (.iadd, 1) := by decide +kernel
theorem dX1_init_56 : decode cX1_init 56 = .ok (.iconst 1, 1) := by decide +kernel
theorem dX1_init_57 : decode cX1_init 57 = .ok (.iastore, 1) := by decide +kernel
theorem dX1_init_58 : decode cX1_init 58 = .ok (.aload_n 0, 1) := by decide +kernel
theorem dX1_init_59 : decode cX1_init 59 = .ok (.getfield 11, 3) := by decide +kernel
theorem dX1_init_62 : decode cX1_init 62 = .ok (.iload_n 1, 1) := by decide +kernel
theorem dX1_init_63 : decode cX1_init 63 = .ok (.iconst 4, 1) := by decide +kernel
theorem dX1_init_64 : decode cX1_init 64 = .ok (.imul, 1) := by decide +kernel
theorem dX1_init_65 : decode cX1_init 65 = .ok (.iconst 3, 1) := by decide +kernel
theorem dX1_init_66 : decode cX1_init 66 = .ok (.iadd, 1) := by decide +kernel
theorem dX1_init_67 : decode cX1_init 67 = .ok (.bipush 16, 2) := by decide +kernel
theorem dX1_init_69 : decode cX1_init 69 = .ok (.iastore, 1) := by decide +kernel
theorem dX1_init_70 : decode cX1_init 70 = .ok (.iinc 1 1, 3) := by decide +kernel
theorem dX1_init_73 : decode cX1_init 73 = .ok (.goto (-44), 3) := by decide +kernel
theorem dX1_init_76 : decode cX1_init 76 = .ok (.aload_n 0, 1) := by decide +kernel
theorem dX1_init_77 : decode cX1_init 77 = .ok (.getfield 18, 3) := by decide +kernel
theorem dX1_init_80 : decode cX1_init 80 = .ok (.iconst 0, 1) := by decide +kernel
theorem dX1_init_81 : decode cX1_init 81 = .ok (.bipush 9, 2) := by decide +kernel
theorem dX1_init_83 : decode cX1_init 83 = .ok (.iastore, 1) := by decide +kernel
theorem dX1_init_84 : decode cX1_init 84 = .ok (.aload_n 0, 1) := by decide +kernel
theorem dX1_init_85 : decode cX1_init 85 = .ok (.getfield 18, 3) := by decide +kernel
theorem dX1_init_88 : decode cX1_init 88 = .ok (.iconst 2, 1) := by decide +kernel
theorem dX1_init_89 : decode cX1_init 89 = .ok (.sipush 999, 3) := by decide +kernel
theorem dX1_init_92 : decode cX1_init 92 = .ok (.iastore, 1) := by decide +kernel
theorem dX1_init_93 : decode cX1_init 93 = .ok (.aload_n 0, 1) := by decide +kernel
theorem dX1_init_94 : decode cX1_init 94 = .ok (.getfield 18, 3) := by decide +kernel
theorem dX1_init_97 : decode cX1_init 97 = .ok (.iconst 3, 1) := by decide +kernel
theorem dX1_init_98 : decode cX1_init 98 = .ok (.bipush 6, 2) := by decide +kernel
theorem dX1_init_100 : decode cX1_init 100 = .ok (.iastore, 1) := by decide +kernel
theorem dX1_init_101 : decode cX1_init 101 = .ok (.return_, 1) := by decide +kernel
theorem dX1_trait_0 : decode cX1_trait 0 = .ok (.aload_n 0, 1) := by decide +kernel
theorem dX1_trait_1 : decode cX1_trait 1 = .ok (.getfield 11, 3) := by decide +kernel
theorem dX1_trait_4 : decode cX1_trait 4 = .ok (.iload_n 1, 1) := by decide +kernel
theorem dX1_trait_5 : decode cX1_trait 5 = .ok (.iconst 4, 1) := by decide +kernel
theorem dX1_trait_6 : decode cX1_trait 6 = .ok (.imul, 1) := by decide +kernel
theorem dX1_trait_7 : decode cX1_trait 7 = .ok (.iload_n 2, 1) := by decide +kernel
theorem dX1_trait_8 : decode cX1_trait 8 = .ok (.iadd, 1) := by decide +kernel
theorem dX1_trait_9 : decode cX1_trait 9 = .ok (.iaload, 1) := by decide +kernel
theorem dX1_trait_10 : decode cX1_trait 10 = .ok (.ireturn, 1) := by decide +kernel
theorem dX1_changeTrait_0 : decode cX1_changeTrait 0 = .ok (.aload_n 0, 1) := by decide +kernel
theorem dX1_changeTrait_1 : decode cX1_changeTrait 1 = .ok (.getfield 11, 3) := by decide +kernel
theorem dX1_changeTrait_4 : decode cX1_changeTrait 4 = .ok (.iload_n 1, 1) := by decide +kernel
theorem dX1_changeTrait_5 : decode cX1_changeTrait 5 = .ok (.iconst 4, 1) := by decide +kernel
theorem dX1_changeTrait_6 : decode cX1_changeTrait 6 = .ok (.imul, 1) := by decide +kernel
theorem dX1_changeTrait_7 : decode cX1_changeTrait 7 = .ok (.iload_n 2, 1) := by decide +kernel
theorem dX1_changeTrait_8 : decode cX1_changeTrait 8 = .ok (.iadd, 1) := by decide +kernel
theorem dX1_changeTrait_9 : decode cX1_changeTrait 9 = .ok (.iaload, 1) := by decide +kernel
theorem dX1_changeTrait_10 : decode cX1_changeTrait 10 = .ok (.istore 4, 2) := by decide +kernel
theorem dX1_changeTrait_12 : decode cX1_changeTrait 12 = .ok (.aload_n 0, 1) := by decide +kernel
theorem dX1_changeTrait_13 : decode cX1_changeTrait 13 = .ok (.getfield 11, 3) := by decide +kernel
theorem dX1_changeTrait_16 : decode cX1_changeTrait 16 = .ok (.iload_n 1, 1) := by decide +kernel
theorem dX1_changeTrait_17 : decode cX1_changeTrait 17 = .ok (.iconst 4, 1) := by decide +kernel
theorem dX1_changeTrait_18 : decode cX1_changeTrait 18 = .ok (.imul, 1) := by decide +kernel
theorem dX1_changeTrait_19 : decode cX1_changeTrait 19 = .ok (.iload_n 2, 1) := by decide +kernel
theorem dX1_changeTrait_20 : decode cX1_changeTrait 20 = .ok (.iadd, 1) := by decide +kernel
theorem dX1_changeTrait_21 : decode cX1_changeTrait 21 = .ok (.iload_n 3, 1) := by decide +kernel
theorem dX1_changeTrait_22 : decode cX1_changeTrait 22 = .ok (.iastore, 1) := by decide +kernel
theorem dX1_changeTrait_23 : decode cX1_changeTrait 23 = .ok (.iload 4, 2) := by decide +kernel
theorem dX1_changeTrait_25 : decode cX1_changeTrait 25 = .ok (.ireturn, 1) := by decide +kernel
theorem dX1_changeSky_0 : decode cX1_changeSky 0 = .ok (.aload_n 0, 1) := by decide +kernel
theorem dX1_changeSky_1 : decode cX1_changeSky 1 = .ok (.getfield 15, 3) := by decide +kernel
theorem dX1_changeSky_4 : decode cX1_changeSky 4 = .ok (.iload_n 1, 1) := by decide +kernel
theorem dX1_changeSky_5 : decode cX1_changeSky 5 = .ok (.iaload, 1) := by decide +kernel
theorem dX1_changeSky_6 : decode cX1_changeSky 6 = .ok (.istore_n 3, 1) := by decide +kernel
theorem dX1_changeSky_7 : decode cX1_changeSky 7 = .ok (.aload_n 0, 1) := by decide +kernel
theorem dX1_changeSky_8 : decode cX1_changeSky 8 = .ok (.getfield 15, 3) := by decide +kernel
theorem dX1_changeSky_11 : decode cX1_changeSky 11 = .ok (.iload_n 1, 1) := by decide +kernel
theorem dX1_changeSky_12 : decode cX1_changeSky 12 = .ok (.iload_n 2, 1) := by decide +kernel
theorem dX1_changeSky_13 : decode cX1_changeSky 13 = .ok (.iastore, 1) := by decide +kernel
theorem dX1_changeSky_14 : decode cX1_changeSky 14 = .ok (.iload_n 3, 1) := by decide +kernel
theorem dX1_changeSky_15 : decode cX1_changeSky 15 = .ok (.ireturn, 1) := by decide +kernel
theorem dX1_changeSetting_0 : decode cX1_changeSetting 0 = .ok (.aload_n 0, 1) := by decide +kernel
theorem dX1_changeSetting_1 : decode cX1_changeSetting 1 = .ok (.getfield 18, 3) := by decide +kernel
theorem dX1_changeSetting_4 : decode cX1_changeSetting 4 = .ok (.iload_n 1, 1) := by decide +kernel
theorem dX1_changeSetting_5 : decode cX1_changeSetting 5 = .ok (.iaload, 1) := by decide +kernel
theorem dX1_changeSetting_6 : decode cX1_changeSetting 6 = .ok (.istore_n 3, 1) := by decide +kernel
theorem dX1_changeSetting_7 : decode cX1_changeSetting 7 = .ok (.aload_n 0, 1) := by decide +kernel
theorem dX1_changeSetting_8 : decode cX1_changeSetting 8 = .ok (.getfield 18, 3) := by decide +kernel
theorem dX1_changeSetting_11 : decode cX1_changeSetting 11 = .ok (.iload_n 1, 1) := by decide +kernel
theorem dX1_changeSetting_12 : decode cX1_changeSetting 12 = .ok (.iload_n 2, 1) := by decide +kernel
theorem dX1_changeSetting_13 : decode cX1_changeSetting 13 = .ok (.iastore, 1) := by decide +kernel
theorem dX1_changeSetting_14 : decode cX1_changeSetting 14 = .ok (.iload_n 3, 1) := by decide +kernel
theorem dX1_changeSetting_15 : decode cX1_changeSetting 15 = .ok (.ireturn, 1) := by decide +kernel
theorem dX1_isHere_0 : decode cX1_isHere 0 = .ok (.iload_n 2, 1) := by decide +kernel
theorem dX1_isHere_1 : decode cX1_isHere 1 = .ok (.aload_n 0, 1) := by decide +kernel
theorem dX1_isHere_2 : decode cX1_isHere 2 = .ok (.getfield 11, 3) := by decide +kernel
theorem dX1_isHere_5 : decode cX1_isHere 5 = .ok (.iload_n 1, 1) := by decide +kernel
theorem dX1_isHere_6 : decode cX1_isHere 6 = .ok (.iconst 4, 1) := by decide +kernel
theorem dX1_isHere_7 : decode cX1_isHere 7 = .ok (.imul, 1) := by decide +kernel
theorem dX1_isHere_8 : decode cX1_isHere 8 = .ok (.iconst 0, 1) := by decide +kernel
theorem dX1_isHere_9 : decode cX1_isHere 9 = .ok (.iadd, 1) := by decide +kernel
theorem dX1_isHere_10 : decode cX1_isHere 10 = .ok (.iaload, 1) := by decide +kernel
theorem dX1_isHere_11 : decode cX1_isHere 11 = .ok (.if_icmp .lt 21, 3) := by decide +kernel
theorem dX1_isHere_14 : decode cX1_isHere 14 = .ok (.iload_n 2, 1) := by decide +kernel
theorem dX1_isHere_15 : decode cX1_isHere 15 = .ok (.aload_n 0, 1) := by decide +kernel
theorem dX1_isHere_16 : decode cX1_isHere 16 = .ok (.getfield 11, 3) := by decide +kernel
theorem dX1_isHere_19 : decode cX1_isHere 19 = .ok (.iload_n 1, 1) := by decide +kernel
theorem dX1_isHere_20 : decode cX1_isHere 20 = .ok (.iconst 4, 1) := by decide +kernel
theorem dX1_isHere_21 : decode cX1_isHere 21 = .ok (.imul, 1) := by decide +kernel
theorem dX1_isHere_22 : decode cX1_isHere 22 = .ok (.iconst 1, 1) := by decide +kernel
theorem dX1_isHere_23 : decode cX1_isHere 23 = .ok (.iadd, 1) := by decide +kernel
theorem dX1_isHere_24 : decode cX1_isHere 24 = .ok (.iaload, 1) := by decide +kernel
theorem dX1_isHere_25 : decode cX1_isHere 25 = .ok (.if_icmp .ge 7, 3) := by decide +kernel
theorem dX1_isHere_28 : decode cX1_isHere 28 = .ok (.iconst 1, 1) := by decide +kernel
theorem dX1_isHere_29 : decode cX1_isHere 29 = .ok (.goto 4, 3) := by decide +kernel
theorem dX1_isHere_32 : decode cX1_isHere 32 = .ok (.iconst 0, 1) := by decide +kernel
theorem dX1_isHere_33 : decode cX1_isHere 33 = .ok (.ireturn, 1) := by decide +kernel
theorem dX1_rainyHours_0 : decode cX1_rainyHours 0 = .ok (.iconst 0, 1) := by decide +kernel
theorem dX1_rainyHours_1 : decode cX1_rainyHours 1 = .ok (.istore_n 1, 1) := by decide +kernel
theorem dX1_rainyHours_2 : decode cX1_rainyHours 2 = .ok (.iconst 0, 1) := by decide +kernel
theorem dX1_rainyHours_3 : decode cX1_rainyHours 3 = .ok (.istore_n 2, 1) := by decide +kernel
theorem dX1_rainyHours_4 : decode cX1_rainyHours 4 = .ok (.iload_n 2, 1) := by decide +kernel
theorem dX1_rainyHours_5 : decode cX1_rainyHours 5 = .ok (.bipush 8, 2) := by decide +kernel
theorem dX1_rainyHours_7 : decode cX1_rainyHours 7 = .ok (.if_icmp .ge 18, 3) := by decide +kernel
theorem dX1_rainyHours_10 : decode cX1_rainyHours 10 = .ok (.iload_n 1, 1) := by decide +kernel
theorem dX1_rainyHours_11 : decode cX1_rainyHours 11 = .ok (.aload_n 0, 1) := by decide +kernel
theorem dX1_rainyHours_12 : decode cX1_rainyHours 12 = .ok (.getfield 15, 3) := by decide +kernel
theorem dX1_rainyHours_15 : decode cX1_rainyHours 15 = .ok (.iload_n 2, 1) := by decide +kernel
theorem dX1_rainyHours_16 : decode cX1_rainyHours 16 = .ok (.iaload, 1) := by decide +kernel
theorem dX1_rainyHours_17 : decode cX1_rainyHours 17 = .ok (.iadd, 1) := by decide +kernel
theorem dX1_rainyHours_18 : decode cX1_rainyHours 18 = .ok (.istore_n 1, 1) := by decide +kernel
theorem dX1_rainyHours_19 : decode cX1_rainyHours 19 = .ok (.iinc 2 1, 3) := by decide +kernel
theorem dX1_rainyHours_22 : decode cX1_rainyHours 22 = .ok (.goto (-18), 3) := by decide +kernel
theorem dX1_rainyHours_25 : decode cX1_rainyHours 25 = .ok (.iload_n 1, 1) := by decide +kernel
theorem dX1_rainyHours_26 : decode cX1_rainyHours 26 = .ok (.ireturn, 1) := by decide +kernel
theorem dX2_init_0 : decode cX2_init 0 = .ok (.aload_n 0, 1) := by decide +kernel
theorem dX2_init_1 : decode cX2_init 1 = .ok (.invokespecial 3, 3) := by decide +kernel
theorem dX2_init_4 : decode cX2_init 4 = .ok (.aload_n 0, 1) := by decide +kernel
theorem dX2_init_5 : decode cX2_init 5 = .ok (.new 9, 3) := by decide +kernel
theorem dX2_init_8 : decode cX2_init 8 = .ok (.dup, 1) := by decide +kernel
theorem dX2_init_9 : decode cX2_init 9 = .ok (.invokespecial 11, 3) := by decide +kernel
theorem dX2_init_12 : decode cX2_init 12 = .ok (.putfield 12, 3) := by decide +kernel
theorem dX2_init_15 : decode cX2_init 15 = .ok (.aload_n 0, 1) := by decide +kernel
theorem dX2_init_16 : decode cX2_init 16 = .ok (.new 18, 3) := by decide +kernel
theorem dX2_init_19 : decode cX2_init 19 = .ok (.dup, 1) := by decide +kernel
theorem dX2_init_20 : decode cX2_init 20 = .ok (.invokespecial 20, 3) := by decide +kernel
theorem dX2_init_23 : decode cX2_init 23 = .ok (.putfield 21, 3) := by decide +kernel
theorem dX2_init_26 : decode cX2_init 26 = .ok (.aload_n 0, 1) := by decide +kernel
theorem dX2_init_27 : decode cX2_init 27 = .ok (.new 25, 3) := by decide +kernel
theorem dX2_init_30 : decode cX2_init 30 = .ok (.dup, 1) := by decide +kernel
theorem dX2_init_31 : decode cX2_init 31 = .ok (.invokespecial 27, 3) := by decide +kernel
theorem dX2_init_34 : decode cX2_init 34 = .ok (.putfield 28, 3) := by decide +kernel
theorem dX2_init_37 : decode cX2_init 37 = .ok (.aload_n 0, 1) := by decide +kernel
theorem dX2_init_38 : decode cX2_init 38 = .ok (.bipush 8, 2) := by decide +kernel
theorem dX2_init_40 : decode cX2_init 40 = .ok (.newarray .int, 2) := by decide +kernel
theorem dX2_init_42 : decode cX2_init 42 = .ok (.putfield 32, 3) := by decide +kernel
theorem dX2_init_45 : decode cX2_init 45 = .ok (.aload_n 0, 1) := by decide +kernel
theorem dX2_init_46 : decode cX2_init 46 = .ok (.bipush 8, 2) := by decide +kernel
theorem dX2_init_48 : decode cX2_init 48 = .ok (.newarray .boolean, 2) := by decide +kernel
theorem dX2_init_50 : decode cX2_init 50 = .ok (.putfield 36, 3) := by decide +kernel
theorem dX2_init_53 : decode cX2_init 53 = .ok (.aload_n 0, 1) := by decide +kernel
theorem dX2_init_54 : decode cX2_init 54 = .ok (.bipush 8, 2) := by decide +kernel
theorem dX2_init_56 : decode cX2_init 56 = .ok (.newarray .boolean, 2) := by decide +kernel
theorem dX2_init_58 : decode cX2_init 58 = .ok (.putfield 40, 3) := by decide +kernel
theorem dX2_init_61 : decode cX2_init 61 = .ok (.aload_n 0, 1) := by decide +kernel
theorem dX2_init_62 : decode cX2_init 62 = .ok (.bipush 64, 2) := by decide +kernel
theorem dX2_init_64 : decode cX2_init 64 = .ok (.newarray .int, 2) := by decide +kernel
theorem dX2_init_66 : decode cX2_init 66 = .ok (.putfield 43, 3) := by decide +kernel
theorem dX2_init_69 : decode cX2_init 69 = .ok (.aload_n 0, 1) := by decide +kernel
theorem dX2_init_70 : decode cX2_init 70 = .ok (.bipush 64, 2) := by decide +kernel
theorem dX2_init_72 : decode cX2_init 72 = .ok (.newarray .int, 2) := by decide +kernel
theorem dX2_init_74 : decode cX2_init 74 = .ok (.putfield 46, 3) := by decide +kernel
theorem dX2_init_77 : decode cX2_init 77 = .ok (.aload_n 0, 1) := by decide +kernel
theorem dX2_init_78 : decode cX2_init 78 = .ok (.bipush 8, 2) := by decide +kernel
theorem dX2_init_80 : decode cX2_init 80 = .ok (.newarray .int, 2) := by decide +kernel
theorem dX2_init_82 : decode cX2_init 82 = .ok (.putfield 49, 3) := by decide +kernel
theorem dX2_init_85 : decode cX2_init 85 = .ok (.return_, 1) := by decide +kernel
theorem dX2_reckon_0 : decode cX2_reckon 0 = .ok (.aload_n 0, 1) := by decide +kernel
theorem dX2_reckon_1 : decode cX2_reckon 1 = .ok (.invokevirtual 52, 3) := by decide +kernel
theorem dX2_reckon_4 : decode cX2_reckon 4 = .ok (.iconst 0, 1) := by decide +kernel
theorem dX2_reckon_5 : decode cX2_reckon 5 = .ok (.istore_n 1, 1) := by decide +kernel
theorem dX2_reckon_6 : decode cX2_reckon 6 = .ok (.iload_n 1, 1) := by decide +kernel
theorem dX2_reckon_7 : decode cX2_reckon 7 = .ok (.aload_n 0, 1) := by decide +kernel
theorem dX2_reckon_8 : decode cX2_reckon 8 = .ok (.getfield 12, 3) := by decide +kernel
theorem dX2_reckon_11 : decode cX2_reckon 11 = .ok (.getfield 55, 3) := by decide +kernel
theorem dX2_reckon_14 : decode cX2_reckon 14 = .ok (.if_icmp .ge 34, 3) := by decide +kernel
theorem dX2_reckon_17 : decode cX2_reckon 17 = .ok (.aload_n 0, 1) := by decide +kernel
theorem dX2_reckon_18 : decode cX2_reckon 18 = .ok (.iload_n 1, 1) := by decide +kernel
theorem dX2_reckon_19 : decode cX2_reckon 19 = .ok (.invokevirtual 59, 3) := by decide +kernel
theorem dX2_reckon_22 : decode cX2_reckon 22 = .ok (.iconst 0, 1) := by decide +kernel
theorem dX2_reckon_23 : decode cX2_reckon 23 = .ok (.istore_n 2, 1) := by decide +kernel
theorem dX2_reckon_24 : decode cX2_reckon 24 = .ok (.iload_n 2, 1) := by decide +kernel
theorem dX2_reckon_25 : decode cX2_reckon 25 = .ok (.bipush 8, 2) := by decide +kernel
theorem dX2_reckon_27 : decode cX2_reckon 27 = .ok (.if_icmp .ge 15, 3) := by decide +kernel
theorem dX2_reckon_30 : decode cX2_reckon 30 = .ok (.aload_n 0, 1) := by decide +kernel
theorem dX2_reckon_31 : decode cX2_reckon 31 = .ok (.iload_n 1, 1) := by decide +kernel
theorem dX2_reckon_32 : decode cX2_reckon 32 = .ok (.iload_n 2, 1) := by decide +kernel
theorem dX2_reckon_33 : decode cX2_reckon 33 = .ok (.invokevirtual 63, 3) := by decide +kernel
theorem dX2_reckon_36 : decode cX2_reckon 36 = .ok (.iinc 2 1, 3) := by decide +kernel
theorem dX2_reckon_39 : decode cX2_reckon 39 = .ok (.goto (-15), 3) := by decide +kernel
theorem dX2_reckon_42 : decode cX2_reckon 42 = .ok (.iinc 1 1, 3) := by decide +kernel
theorem dX2_reckon_45 : decode cX2_reckon 45 = .ok (.goto (-39), 3) := by decide +kernel
theorem dX2_reckon_48 : decode cX2_reckon 48 = .ok (.return_, 1) := by decide +kernel
theorem dX2_applyRule_0 : decode cX2_applyRule 0 = .ok (.aload_n 0, 1) := by decide +kernel
theorem dX2_applyRule_1 : decode cX2_applyRule 1 = .ok (.getfield 12, 3) := by decide +kernel
theorem dX2_applyRule_4 : decode cX2_applyRule 4 = .ok (.getfield 67, 3) := by decide +kernel
theorem dX2_applyRule_7 : decode cX2_applyRule 7 = .ok (.iload_n 1, 1) := by decide +kernel
theorem dX2_applyRule_8 : decode cX2_applyRule 8 = .ok (.iaload, 1) := by decide +kernel
theorem dX2_applyRule_9 : decode cX2_applyRule 9 = .ok (.istore_n 2, 1) := by decide +kernel
theorem dX2_applyRule_10 : decode cX2_applyRule 10 = .ok (.aload_n 0, 1) := by decide +kernel
theorem dX2_applyRule_11 : decode cX2_applyRule 11 = .ok (.getfield 32, 3) := by decide +kernel
theorem dX2_applyRule_14 : decode cX2_applyRule 14 = .ok (.iload_n 1, 1) := by decide +kernel
theorem dX2_applyRule_15 : decode cX2_applyRule 15 = .ok (.aload_n 0, 1) := by decide +kernel
theorem dX2_applyRule_16 : decode cX2_applyRule 16 = .ok (.getfield 21, 3) := by decide +kernel
theorem dX2_applyRule_19 : decode cX2_applyRule 19 = .ok (.iload_n 2, 1) := by decide +kernel
theorem dX2_applyRule_20 : decode cX2_applyRule 20 = .ok (.invokevirtual 70, 3) := by decide +kernel
theorem dX2_applyRule_23 : decode cX2_applyRule 23 = .ok (.aload_n 0, 1) := by decide +kernel
theorem dX2_applyRule_24 : decode cX2_applyRule 24 = .ok (.getfield 12, 3) := by decide +kernel
theorem dX2_applyRule_27 : decode cX2_applyRule 27 = .ok (.getfield 74, 3) := by decide +kernel
theorem dX2_applyRule_30 : decode cX2_applyRule 30 = .ok (.iload_n 1, 1) := by decide +kernel
theorem dX2_applyRule_31 : decode cX2_applyRule 31 = .ok (.iaload, 1) := by decide +kernel
theorem dX2_applyRule_32 : decode cX2_applyRule 32 = .ok (.invokestatic 77, 3) := by decide +kernel
theorem dX2_applyRule_35 : decode cX2_applyRule 35 = .ok (.invokestatic 82, 3) := by decide +kernel
theorem dX2_applyRule_38 : decode cX2_applyRule 38 = .ok (.iastore, 1) := by decide +kernel
theorem dX2_applyRule_39 : decode cX2_applyRule 39 = .ok (.aload_n 0, 1) := by decide +kernel
theorem dX2_applyRule_40 : decode cX2_applyRule 40 = .ok (.getfield 36, 3) := by decide +kernel
theorem dX2_applyRule_43 : decode cX2_applyRule 43 = .ok (.iload_n 1, 1) := by decide +kernel
theorem dX2_applyRule_44 : decode cX2_applyRule 44 = .ok (.aload_n 0, 1) := by decide +kernel
theorem dX2_applyRule_45 : decode cX2_applyRule 45 = .ok (.getfield 21, 3) := by decide +kernel
theorem dX2_applyRule_48 : decode cX2_applyRule 48 = .ok (.iload_n 2, 1) := by decide +kernel
theorem dX2_applyRule_49 : decode cX2_applyRule 49 = .ok (.invokevirtual 88, 3) := by decide +kernel
theorem dX2_applyRule_52 : decode cX2_applyRule 52 = .ok (.bastore, 1) := by decide +kernel
theorem dX2_applyRule_53 : decode cX2_applyRule 53 = .ok (.aload_n 0, 1) := by decide +kernel
theorem dX2_applyRule_54 : decode cX2_applyRule 54 = .ok (.getfield 40, 3) := by decide +kernel
theorem dX2_applyRule_57 : decode cX2_applyRule 57 = .ok (.iload_n 1, 1) := by decide +kernel
theorem dX2_applyRule_58 : decode cX2_applyRule 58 = .ok (.aload_n 0, 1) := by decide +kernel
theorem dX2_applyRule_59 : decode cX2_applyRule 59 = .ok (.getfield 21, 3) := by decide +kernel
theorem dX2_applyRule_62 : decode cX2_applyRule 62 = .ok (.iload_n 2, 1) := by decide +kernel
theorem dX2_applyRule_63 : decode cX2_applyRule 63 = .ok (.invokevirtual 91, 3) := by decide +kernel
theorem dX2_applyRule_66 : decode cX2_applyRule 66 = .ok (.bastore, 1) := by decide +kernel
theorem dX2_applyRule_67 : decode cX2_applyRule 67 = .ok (.return_, 1) := by decide +kernel
theorem dX2_sortByPrice_0 : decode cX2_sortByPrice 0 = .ok (.iconst 0, 1) := by decide +kernel
theorem dX2_sortByPrice_1 : decode cX2_sortByPrice 1 = .ok (.istore_n 1, 1) := by decide +kernel
theorem dX2_sortByPrice_2 : decode cX2_sortByPrice 2 = .ok (.iload_n 1, 1) := by decide +kernel
theorem dX2_sortByPrice_3 : decode cX2_sortByPrice 3 = .ok (.bipush 8, 2) := by decide +kernel
theorem dX2_sortByPrice_5 : decode cX2_sortByPrice 5 = .ok (.if_icmp .ge 70, 3) := by decide +kernel
theorem dX2_sortByPrice_8 : decode cX2_sortByPrice 8 = .ok (.iload_n 1, 1) := by decide +kernel
theorem dX2_sortByPrice_9 : decode cX2_sortByPrice 9 = .ok (.istore_n 2, 1) := by decide +kernel
theorem dX2_sortByPrice_10 : decode cX2_sortByPrice 10 = .ok (.iload_n 2, 1) := by decide +kernel
theorem dX2_sortByPrice_11 : decode cX2_sortByPrice 11 = .ok (.ifCond .le 51, 3) := by decide +kernel
theorem dX2_sortByPrice_14 : decode cX2_sortByPrice 14 = .ok (.aload_n 0, 1) := by decide +kernel
theorem dX2_sortByPrice_15 : decode cX2_sortByPrice 15 = .ok (.getfield 28, 3) := by decide +kernel
theorem dX2_sortByPrice_18 : decode cX2_sortByPrice 18 = .ok (.aload_n 0, 1) := by decide +kernel
theorem dX2_sortByPrice_19 : decode cX2_sortByPrice 19 = .ok (.getfield 49, 3) := by decide +kernel
theorem dX2_sortByPrice_22 : decode cX2_sortByPrice 22 = .ok (.iload_n 2, 1) := by decide +kernel
theorem dX2_sortByPrice_23 : decode cX2_sortByPrice 23 = .ok (.iconst 1, 1) := by decide +kernel
theorem dX2_sortByPrice_24 : decode cX2_sortByPrice 24 = .ok (.isub, 1) := by decide +kernel
theorem dX2_sortByPrice_25 : decode cX2_sortByPrice 25 = .ok (.iaload, 1) := by decide +kernel
theorem dX2_sortByPrice_26 : decode cX2_sortByPrice 26 = .ok (.iconst 2, 1) := by decide +kernel
theorem dX2_sortByPrice_27 : decode cX2_sortByPrice 27 = .ok (.invokevirtual 93, 3) := by decide +kernel
theorem dX2_sortByPrice_30 : decode cX2_sortByPrice 30 = .ok (.aload_n 0, 1) := by decide +kernel
theorem dX2_sortByPrice_31 : decode cX2_sortByPrice 31 = .ok (.getfield 28, 3) := by decide +kernel
theorem dX2_sortByPrice_34 : decode cX2_sortByPrice 34 = .ok (.iload_n 1, 1) := by decide +kernel
theorem dX2_sortByPrice_35 : decode cX2_sortByPrice 35 = .ok (.iconst 2, 1) := by decide +kernel
theorem dX2_sortByPrice_36 : decode cX2_sortByPrice 36 = .ok (.invokevirtual 93, 3) := by decide +kernel
theorem dX2_sortByPrice_39 : decode cX2_sortByPrice 39 = .ok (.if_icmp .le 23, 3) := by decide +kernel
theorem dX2_sortByPrice_42 : decode cX2_sortByPrice 42 = .ok (.aload_n 0, 1) := by decide +kernel
theorem dX2_sortByPrice_43 : decode cX2_sortByPrice 43 = .ok (.getfield 49, 3) := by decide +kernel
theorem dX2_sortByPrice_46 : decode cX2_sortByPrice 46 = .ok (.iload_n 2, 1) := by decide +kernel
theorem dX2_sortByPrice_47 : decode cX2_sortByPrice 47 = .ok (.aload_n 0, 1) := by decide +kernel
theorem dX2_sortByPrice_48 : decode cX2_sortByPrice 48 = .ok (.getfield 49, 3) := by decide +kernel
theorem dX2_sortByPrice_51 : decode cX2_sortByPrice 51 = .ok (.iload_n 2, 1) := by decide +kernel
theorem dX2_sortByPrice_52 : decode cX2_sortByPrice 52 = .ok (.iconst 1, 1) := by decide +kernel
theorem dX2_sortByPrice_53 : decode cX2_sortByPrice 53 = .ok (.isub, 1) := by decide +kernel
theorem dX2_sortByPrice_54 : decode cX2_sortByPrice 54 = .ok (.iaload, 1) := by decide +kernel
theorem dX2_sortByPrice_55 : decode cX2_sortByPrice 55 = .ok (.iastore, 1) := by decide +kernel
theorem dX2_sortByPrice_56 : decode cX2_sortByPrice 56 = .ok (.iinc 2 (-1), 3) := by decide +kernel
theorem dX2_sortByPrice_59 : decode cX2_sortByPrice 59 = .ok (.goto (-49), 3) := by decide +kernel
theorem dX2_sortByPrice_62 : decode cX2_sortByPrice 62 = .ok (.aload_n 0, 1) := by decide +kernel
theorem dX2_sortByPrice_63 : decode cX2_sortByPrice 63 = .ok (.getfield 49, 3) := by decide +kernel
theorem dX2_sortByPrice_66 : decode cX2_sortByPrice 66 = .ok (.iload_n 2, 1) := by decide +kernel
theorem dX2_sortByPrice_67 : decode cX2_sortByPrice 67 = .ok (.iload_n 1, 1) := by decide +kernel
theorem dX2_sortByPrice_68 : decode cX2_sortByPrice 68 = .ok (.iastore, 1) := by decide +kernel
theorem dX2_sortByPrice_69 : decode cX2_sortByPrice 69 = .ok (.iinc 1 1, 3) := by decide +kernel
theorem dX2_sortByPrice_72 : decode cX2_sortByPrice 72 = .ok (.goto (-70), 3) := by decide +kernel
theorem dX2_sortByPrice_75 : decode cX2_sortByPrice 75 = .ok (.return_, 1) := by decide +kernel
theorem dX2_reckonOne_0 : decode cX2_reckonOne 0 = .ok (.aload_n 0, 1) := by decide +kernel
theorem dX2_reckonOne_1 : decode cX2_reckonOne 1 = .ok (.getfield 12, 3) := by decide +kernel
theorem dX2_reckonOne_4 : decode cX2_reckonOne 4 = .ok (.getfield 74, 3) := by decide +kernel
theorem dX2_reckonOne_7 : decode cX2_reckonOne 7 = .ok (.iload_n 1, 1) := by decide +kernel
theorem dX2_reckonOne_8 : decode cX2_reckonOne 8 = .ok (.iaload, 1) := by decide +kernel
theorem dX2_reckonOne_9 : decode cX2_reckonOne 9 = .ok (.istore_n 3, 1) := by decide +kernel
theorem dX2_reckonOne_10 : decode cX2_reckonOne 10 = .ok (.aload_n 0, 1) := by decide +kernel
theorem dX2_reckonOne_11 : decode cX2_reckonOne 11 = .ok (.getfield 32, 3) := by decide +kernel
theorem dX2_reckonOne_14 : decode cX2_reckonOne 14 = .ok (.iload_n 1, 1) := by decide +kernel
theorem dX2_reckonOne_15 : decode cX2_reckonOne 15 = .ok (.iaload, 1) := by decide +kernel
theorem dX2_reckonOne_16 : decode cX2_reckonOne 16 = .ok (.istore 4, 2) := by decide +kernel
theorem dX2_reckonOne_18 : decode cX2_reckonOne 18 = .ok (.iconst 0, 1) := by decide +kernel
theorem dX2_reckonOne_19 : decode cX2_reckonOne 19 = .ok (.istore 5, 2) := by decide +kernel
theorem dX2_reckonOne_21 : decode cX2_reckonOne 21 = .ok (.iconst 0, 1) := by decide +kernel
theorem dX2_reckonOne_22 : decode cX2_reckonOne 22 = .ok (.istore 6, 2) := by decide +kernel
theorem dX2_reckonOne_24 : decode cX2_reckonOne 24 = .ok (.iconst 0, 1) := by decide +kernel
theorem dX2_reckonOne_25 : decode cX2_reckonOne 25 = .ok (.istore 7, 2) := by decide +kernel
theorem dX2_reckonOne_27 : decode cX2_reckonOne 27 = .ok (.iload 7, 2) := by decide +kernel
theorem dX2_reckonOne_29 : decode cX2_reckonOne 29 = .ok (.bipush 8, 2) := by decide +kernel
theorem dX2_reckonOne_31 : decode cX2_reckonOne 31 = .ok (.if_icmp .ge 72, 3) := by decide +kernel
theorem dX2_reckonOne_34 : decode cX2_reckonOne 34 = .ok (.iload 4, 2) := by decide +kernel
theorem dX2_reckonOne_36 : decode cX2_reckonOne 36 = .ok (.ifCond .le 67, 3) := by decide +kernel
theorem dX2_reckonOne_39 : decode cX2_reckonOne 39 = .ok (.aload_n 0, 1) := by decide +kernel
theorem dX2_reckonOne_40 : decode cX2_reckonOne 40 = .ok (.getfield 49, 3) := by decide +kernel
theorem dX2_reckonOne_43 : decode cX2_reckonOne 43 = .ok (.iload 7, 2) := by decide +kernel
theorem dX2_reckonOne_45 : decode cX2_reckonOne 45 = .ok (.iaload, 1) := by decide +kernel
theorem dX2_reckonOne_46 : decode cX2_reckonOne 46 = .ok (.istore 8, 2) := by decide +kernel
theorem dX2_reckonOne_48 : decode cX2_reckonOne 48 = .ok (.iload_n 3, 1) := by decide +kernel
theorem dX2_reckonOne_49 : decode cX2_reckonOne 49 = .ok (.iload 8, 2) := by decide +kernel
theorem dX2_reckonOne_51 : decode cX2_reckonOne 51 = .ok (.invokestatic 96, 3) := by decide +kernel
theorem dX2_reckonOne_54 : decode cX2_reckonOne 54 = .ok (.ifCond .eq 43, 3) := by decide +kernel
theorem dX2_reckonOne_57 : decode cX2_reckonOne 57 = .ok (.aload_n 0, 1) := by decide +kernel
theorem dX2_reckonOne_58 : decode cX2_reckonOne 58 = .ok (.getfield 28, 3) := by decide +kernel
theorem dX2_reckonOne_61 : decode cX2_reckonOne 61 = .ok (.iload 8, 2) := by decide +kernel
theorem dX2_reckonOne_63 : decode cX2_reckonOne 63 = .ok (.iload_n 2, 1) := by decide +kernel
theorem dX2_reckonOne_64 : decode cX2_reckonOne 64 = .ok (.invokevirtual 100, 3) := by decide +kernel
theorem dX2_reckonOne_67 : decode cX2_reckonOne 67 = .ok (.ifCond .eq 30, 3) := by decide +kernel
theorem dX2_reckonOne_70 : decode cX2_reckonOne 70 = .ok (.iload 5, 2) := by decide +kernel
theorem dX2_reckonOne_72 : decode cX2_reckonOne 72 = .ok (.iconst 1, 1) := by decide +kernel
theorem dX2_reckonOne_73 : decode cX2_reckonOne 73 = .ok (.iload 8, 2) := by decide +kernel
theorem dX2_reckonOne_75 : decode cX2_reckonOne 75 = .ok (.ishl, 1) := by decide +kernel
theorem dX2_reckonOne_76 : decode cX2_reckonOne 76 = .ok (.ior, 1) := by decide +kernel
theorem dX2_reckonOne_77 : decode cX2_reckonOne 77 = .ok (.istore 5, 2) := by decide +kernel
theorem dX2_reckonOne_79 : decode cX2_reckonOne 79 = .ok (.iload 6, 2) := by decide +kernel
theorem dX2_reckonOne_81 : decode cX2_reckonOne 81 = .ok (.aload_n 0, 1) := by decide +kernel
theorem dX2_reckonOne_82 : decode cX2_reckonOne 82 = .ok (.getfield 28, 3) := by decide +kernel
theorem dX2_reckonOne_85 : decode cX2_reckonOne 85 = .ok (.iload 8, 2) := by decide +kernel
theorem dX2_reckonOne_87 : decode cX2_reckonOne 87 = .ok (.iconst 2, 1) := by decide +kernel
theorem dX2_reckonOne_88 : decode cX2_reckonOne 88 = .ok (.invokevirtual 93, 3) := by decide +kernel
theorem dX2_reckonOne_91 : decode cX2_reckonOne 91 = .ok (.iadd, 1) := by decide +kernel
theorem dX2_reckonOne_92 : decode cX2_reckonOne 92 = .ok (.istore 6, 2) := by decide +kernel
theorem dX2_reckonOne_94 : decode cX2_reckonOne 94 = .ok (.iinc 4 (-1), 3) := by decide +kernel
theorem dX2_reckonOne_97 : decode cX2_reckonOne 97 = .ok (.iinc 7 1, 3) := by decide +kernel
theorem dX2_reckonOne_100 : decode cX2_reckonOne 100 = .ok (.goto (-73), 3) := by decide +kernel
theorem dX2_reckonOne_103 : decode cX2_reckonOne 103 = .ok (.aload_n 0, 1) := by decide +kernel
theorem dX2_reckonOne_104 : decode cX2_reckonOne 104 = .ok (.iload_n 1, 1) := by decide +kernel
theorem dX2_reckonOne_105 : decode cX2_reckonOne 105 = .ok (.iload_n 2, 1) := by decide +kernel
theorem dX2_reckonOne_106 : decode cX2_reckonOne 106 = .ok (.invokevirtual 103, 3) := by decide +kernel
theorem dX2_reckonOne_109 : decode cX2_reckonOne 109 = .ok (.ifCond .eq 16, 3) := by decide +kernel
theorem dX2_reckonOne_112 : decode cX2_reckonOne 112 = .ok (.aload_n 0, 1) := by decide +kernel
theorem dX2_reckonOne_113 : decode cX2_reckonOne 113 = .ok (.getfield 28, 3) := by decide +kernel
theorem dX2_reckonOne_116 : decode cX2_reckonOne 116 = .ok (.getfield 106, 3) := by decide +kernel
theorem dX2_reckonOne_119 : decode cX2_reckonOne 119 = .ok (.iconst 1, 1) := by decide +kernel
theorem dX2_reckonOne_120 : decode cX2_reckonOne 120 = .ok (.iaload, 1) := by decide +kernel
theorem dX2_reckonOne_121 : decode cX2_reckonOne 121 = .ok (.iconst 1, 1) := by decide +kernel
theorem dX2_reckonOne_122 : decode cX2_reckonOne 122 = .ok (.if_icmp .ne 7, 3) := by decide +kernel
theorem dX2_reckonOne_125 : decode cX2_reckonOne 125 = .ok (.iconst 1, 1) := by decide +kernel
theorem dX2_reckonOne_126 : decode cX2_reckonOne 126 = .ok (.goto 4, 3) := by decide +kernel
theorem dX2_reckonOne_129 : decode cX2_reckonOne 129 = .ok (.iconst 0, 1) := by decide +kernel
theorem dX2_reckonOne_130 : decode cX2_reckonOne 130 = .ok (.istore 7, 2) := by decide +kernel
theorem dX2_reckonOne_132 : decode cX2_reckonOne 132 = .ok (.aload_n 0, 1) := by decide +kernel
theorem dX2_reckonOne_133 : decode cX2_reckonOne 133 = .ok (.getfield 43, 3) := by decide +kernel
theorem dX2_reckonOne_136 : decode cX2_reckonOne 136 = .ok (.iload_n 1, 1) := by decide +kernel
theorem dX2_reckonOne_137 : decode cX2_reckonOne 137 = .ok (.bipush 8, 2) := by decide +kernel
theorem dX2_reckonOne_139 : decode cX2_reckonOne 139 = .ok (.imul, 1) := by decide +kernel
theorem dX2_reckonOne_140 : decode cX2_reckonOne 140 = .ok (.iload_n 2, 1) := by decide +kernel
theorem dX2_reckonOne_141 : decode cX2_reckonOne 141 = .ok (.iadd, 1) := by decide +kernel
theorem dX2_reckonOne_142 : decode cX2_reckonOne 142 = .ok (.iload 4, 2) := by decide +kernel
theorem dX2_reckonOne_144 : decode cX2_reckonOne 144 = .ok (.ifCond .ne 13, 3) := by decide +kernel
theorem dX2_reckonOne_147 : decode cX2_reckonOne 147 = .ok (.iload 7, 2) := by decide +kernel
theorem dX2_reckonOne_149 : decode cX2_reckonOne 149 = .ok (.ifCond .eq 8, 3) := by decide +kernel
theorem dX2_reckonOne_152 : decode cX2_reckonOne 152 = .ok (.iload 5, 2) := by decide +kernel
theorem dX2_reckonOne_154 : decode cX2_reckonOne 154 = .ok (.goto 4, 3) := by decide +kernel
theorem dX2_reckonOne_157 : decode cX2_reckonOne 157 = .ok (.iconst (-1), 1) := by decide +kernel
theorem dX2_reckonOne_158 : decode cX2_reckonOne 158 = .ok (.iastore, 1) := by decide +kernel
theorem dX2_reckonOne_159 : decode cX2_reckonOne 159 = .ok (.aload_n 0, 1) := by decide +kernel
theorem dX2_reckonOne_160 : decode cX2_reckonOne 160 = .ok (.getfield 46, 3) := by decide +kernel
theorem dX2_reckonOne_163 : decode cX2_reckonOne 163 = .ok (.iload_n 1, 1) := by decide +kernel
theorem dX2_reckonOne_164 : decode cX2_reckonOne 164 = .ok (.bipush 8, 2) := by decide +kernel
theorem dX2_reckonOne_166 : decode cX2_reckonOne 166 = .ok (.imul, 1) := by decide +kernel
theorem dX2_reckonOne_167 : decode cX2_reckonOne 167 = .ok (.iload_n 2, 1) := by decide +kernel
theorem dX2_reckonOne_168 : decode cX2_reckonOne 168 = .ok (.iadd, 1) := by decide +kernel
theorem dX2_reckonOne_169 : decode cX2_reckonOne 169 = .ok (.iload 6, 2) := by decide +kernel
theorem dX2_reckonOne_171 : decode cX2_reckonOne 171 = .ok (.iastore, 1) := by decide +kernel
theorem dX2_reckonOne_172 : decode cX2_reckonOne 172 = .ok (.return_, 1) := by decide +kernel
theorem dX2_isOpen_0 : decode cX2_isOpen 0 = .ok (.aload_n 0, 1) := by decide +kernel
theorem dX2_isOpen_1 : decode cX2_isOpen 1 = .ok (.getfield 43, 3) := by decide +kernel
theorem dX2_isOpen_4 : decode cX2_isOpen 4 = .ok (.iload_n 1, 1) := by decide +kernel
theorem dX2_isOpen_5 : decode cX2_isOpen 5 = .ok (.bipush 8, 2) := by decide +kernel
theorem dX2_isOpen_7 : decode cX2_isOpen 7 = .ok (.imul, 1) := by decide +kernel
theorem dX2_isOpen_8 : decode cX2_isOpen 8 = .ok (.iload_n 2, 1) := by decide +kernel
theorem dX2_isOpen_9 : decode cX2_isOpen 9 = .ok (.iadd, 1) := by decide +kernel
theorem dX2_isOpen_10 : decode cX2_isOpen 10 = .ok (.iaload, 1) := by decide +kernel
theorem dX2_isOpen_11 : decode cX2_isOpen 11 = .ok (.iconst (-1), 1) := by decide +kernel
theorem dX2_isOpen_12 : decode cX2_isOpen 12 = .ok (.if_icmp .eq 7, 3) := by decide +kernel
theorem dX2_isOpen_15 : decode cX2_isOpen 15 = .ok (.iconst 1, 1) := by decide +kernel
theorem dX2_isOpen_16 : decode cX2_isOpen 16 = .ok (.goto 4, 3) := by decide +kernel
theorem dX2_isOpen_19 : decode cX2_isOpen 19 = .ok (.iconst 0, 1) := by decide +kernel
theorem dX2_isOpen_20 : decode cX2_isOpen 20 = .ok (.ireturn, 1) := by decide +kernel
theorem dX2_whoComes_0 : decode cX2_whoComes 0 = .ok (.aload_n 0, 1) := by decide +kernel
theorem dX2_whoComes_1 : decode cX2_whoComes 1 = .ok (.getfield 43, 3) := by decide +kernel
theorem dX2_whoComes_4 : decode cX2_whoComes 4 = .ok (.iload_n 1, 1) := by decide +kernel
theorem dX2_whoComes_5 : decode cX2_whoComes 5 = .ok (.bipush 8, 2) := by decide +kernel
theorem dX2_whoComes_7 : decode cX2_whoComes 7 = .ok (.imul, 1) := by decide +kernel
theorem dX2_whoComes_8 : decode cX2_whoComes 8 = .ok (.iload_n 2, 1) := by decide +kernel
theorem dX2_whoComes_9 : decode cX2_whoComes 9 = .ok (.iadd, 1) := by decide +kernel
theorem dX2_whoComes_10 : decode cX2_whoComes 10 = .ok (.iaload, 1) := by decide +kernel
theorem dX2_whoComes_11 : decode cX2_whoComes 11 = .ok (.ireturn, 1) := by decide +kernel
theorem dX2_priceOfPeople_0 : decode cX2_priceOfPeople 0 = .ok (.aload_n 0, 1) := by decide +kernel
theorem dX2_priceOfPeople_1 : decode cX2_priceOfPeople 1 = .ok (.getfield 46, 3) := by decide +kernel
theorem dX2_priceOfPeople_4 : decode cX2_priceOfPeople 4 = .ok (.iload_n 1, 1) := by decide +kernel
theorem dX2_priceOfPeople_5 : decode cX2_priceOfPeople 5 = .ok (.bipush 8, 2) := by decide +kernel
theorem dX2_priceOfPeople_7 : decode cX2_priceOfPeople 7 = .ok (.imul, 1) := by decide +kernel
theorem dX2_priceOfPeople_8 : decode cX2_priceOfPeople 8 = .ok (.iload_n 2, 1) := by decide +kernel
theorem dX2_priceOfPeople_9 : decode cX2_priceOfPeople 9 = .ok (.iadd, 1) := by decide +kernel
theorem dX2_priceOfPeople_10 : decode cX2_priceOfPeople 10 = .ok (.iaload, 1) := by decide +kernel
theorem dX2_priceOfPeople_11 : decode cX2_priceOfPeople 11 = .ok (.ireturn, 1) := by decide +kernel
theorem dX2_fullPrice_0 : decode cX2_fullPrice 0 = .ok (.aload_n 0, 1) := by decide +kernel
theorem dX2_fullPrice_1 : decode cX2_fullPrice 1 = .ok (.iload_n 1, 1) := by decide +kernel
theorem dX2_fullPrice_2 : decode cX2_fullPrice 2 = .ok (.iload_n 2, 1) := by decide +kernel
theorem dX2_fullPrice_3 : decode cX2_fullPrice 3 = .ok (.invokevirtual 109, 3) := by decide +kernel
theorem dX2_fullPrice_6 : decode cX2_fullPrice 6 = .ok (.aload_n 0, 1) := by decide +kernel
theorem dX2_fullPrice_7 : decode cX2_fullPrice 7 = .ok (.iload_n 1, 1) := by decide +kernel
theorem dX2_fullPrice_8 : decode cX2_fullPrice 8 = .ok (.iload_n 2, 1) := by decide +kernel
theorem dX2_fullPrice_9 : decode cX2_fullPrice 9 = .ok (.invokevirtual 103, 3) := by decide +kernel
theorem dX2_fullPrice_12 : decode cX2_fullPrice 12 = .ok (.ifCond .eq 15, 3) := by decide +kernel
theorem dX2_fullPrice_15 : decode cX2_fullPrice 15 = .ok (.aload_n 0, 1) := by decide +kernel
theorem dX2_fullPrice_16 : decode cX2_fullPrice 16 = .ok (.getfield 28, 3) := by decide +kernel
theorem dX2_fullPrice_19 : decode cX2_fullPrice 19 = .ok (.getfield 106, 3) := by decide +kernel
theorem dX2_fullPrice_22 : decode cX2_fullPrice 22 = .ok (.iconst 0, 1) := by decide +kernel
theorem dX2_fullPrice_23 : decode cX2_fullPrice 23 = .ok (.iaload, 1) := by decide +kernel
theorem dX2_fullPrice_24 : decode cX2_fullPrice 24 = .ok (.goto 4, 3) := by decide +kernel
theorem dX2_fullPrice_27 : decode cX2_fullPrice 27 = .ok (.iconst 0, 1) := by decide +kernel
theorem dX2_fullPrice_28 : decode cX2_fullPrice 28 = .ok (.iadd, 1) := by decide +kernel
theorem dX2_fullPrice_29 : decode cX2_fullPrice 29 = .ok (.ireturn, 1) := by decide +kernel
theorem dX2_openHours_0 : decode cX2_openHours 0 = .ok (.iconst 0, 1) := by decide +kernel
theorem dX2_openHours_1 : decode cX2_openHours 1 = .ok (.istore_n 2, 1) := by decide +kernel
theorem dX2_openHours_2 : decode cX2_openHours 2 = .ok (.iconst 0, 1) := by decide +kernel
theorem dX2_openHours_3 : decode cX2_openHours 3 = .ok (.istore_n 3, 1) := by decide +kernel
theorem dX2_openHours_4 : decode cX2_openHours 4 = .ok (.iload_n 3, 1) := by decide +kernel
theorem dX2_openHours_5 : decode cX2_openHours 5 = .ok (.bipush 8, 2) := by decide +kernel
theorem dX2_openHours_7 : decode cX2_openHours 7 = .ok (.if_icmp .ge 24, 3) := by decide +kernel
theorem dX2_openHours_10 : decode cX2_openHours 10 = .ok (.aload_n 0, 1) := by decide +kernel
theorem dX2_openHours_11 : decode cX2_openHours 11 = .ok (.iload_n 1, 1) := by decide +kernel
theorem dX2_openHours_12 : decode cX2_openHours 12 = .ok (.iload_n 3, 1) := by decide +kernel
theorem dX2_openHours_13 : decode cX2_openHours 13 = .ok (.invokevirtual 112, 3) := by decide +kernel
theorem dX2_openHours_16 : decode cX2_openHours 16 = .ok (.ifCond .eq 9, 3) := by decide +kernel
theorem dX2_openHours_19 : decode cX2_openHours 19 = .ok (.iload_n 2, 1) := by decide +kernel
theorem dX2_openHours_20 : decode cX2_openHours 20 = .ok (.iconst 1, 1) := by decide +kernel
theorem dX2_openHours_21 : decode cX2_openHours 21 = .ok (.iload_n 3, 1) := by decide +kernel
theorem dX2_openHours_22 : decode cX2_openHours 22 = .ok (.ishl, 1) := by decide +kernel
theorem dX2_openHours_23 : decode cX2_openHours 23 = .ok (.ior, 1) := by decide +kernel
theorem dX2_openHours_24 : decode cX2_openHours 24 = .ok (.istore_n 2, 1) := by decide +kernel
theorem dX2_openHours_25 : decode cX2_openHours 25 = .ok (.iinc 3 1, 3) := by decide +kernel
theorem dX2_openHours_28 : decode cX2_openHours 28 = .ok (.goto (-24), 3) := by decide +kernel
theorem dX2_openHours_31 : decode cX2_openHours 31 = .ok (.iload_n 2, 1) := by decide +kernel
theorem dX2_openHours_32 : decode cX2_openHours 32 = .ok (.ireturn, 1) := by decide +kernel
theorem dX2_hopefulDeeds_0 : decode cX2_hopefulDeeds 0 = .ok (.iconst 0, 1) := by decide +kernel
theorem dX2_hopefulDeeds_1 : decode cX2_hopefulDeeds 1 = .ok (.istore_n 1, 1) := by decide +kernel
theorem dX2_hopefulDeeds_2 : decode cX2_hopefulDeeds 2 = .ok (.iconst 0, 1) := by decide +kernel
theorem dX2_hopefulDeeds_3 : decode cX2_hopefulDeeds 3 = .ok (.istore_n 2, 1) := by decide +kernel
theorem dX2_hopefulDeeds_4 : decode cX2_hopefulDeeds 4 = .ok (.iload_n 2, 1) := by decide +kernel
theorem dX2_hopefulDeeds_5 : decode cX2_hopefulDeeds 5 = .ok (.aload_n 0, 1) := by decide +kernel
theorem dX2_hopefulDeeds_6 : decode cX2_hopefulDeeds 6 = .ok (.getfield 12, 3) := by decide +kernel
theorem dX2_hopefulDeeds_9 : decode cX2_hopefulDeeds 9 = .ok (.getfield 55, 3) := by decide +kernel
theorem dX2_hopefulDeeds_12 : decode cX2_hopefulDeeds 12 = .ok (.if_icmp .ge 23, 3) := by decide +kernel
theorem dX2_hopefulDeeds_15 : decode cX2_hopefulDeeds 15 = .ok (.aload_n 0, 1) := by decide +kernel
theorem dX2_hopefulDeeds_16 : decode cX2_hopefulDeeds 16 = .ok (.iload_n 2, 1) := by decide +kernel
theorem dX2_hopefulDeeds_17 : decode cX2_hopefulDeeds 17 = .ok (.invokevirtual 115, 3) := by decide +kernel
theorem dX2_hopefulDeeds_20 : decode cX2_hopefulDeeds 20 = .ok (.ifCond .eq 9, 3) := by decide +kernel
theorem dX2_hopefulDeeds_23 : decode cX2_hopefulDeeds 23 = .ok (.iload_n 1, 1) := by decide +kernel
theorem dX2_hopefulDeeds_24 : decode cX2_hopefulDeeds 24 = .ok (.iconst 1, 1) := by decide +kernel
theorem dX2_hopefulDeeds_25 : decode cX2_hopefulDeeds 25 = .ok (.iload_n 2, 1) := by decide +kernel
theorem dX2_hopefulDeeds_26 : decode cX2_hopefulDeeds 26 = .ok (.ishl, 1) := by decide +kernel
theorem dX2_hopefulDeeds_27 : decode cX2_hopefulDeeds 27 = .ok (.ior, 1) := by decide +kernel
theorem dX2_hopefulDeeds_28 : decode cX2_hopefulDeeds 28 = .ok (.istore_n 1, 1) := by decide +kernel
theorem dX2_hopefulDeeds_29 : decode cX2_hopefulDeeds 29 = .ok (.iinc 2 1, 3) := by decide +kernel
theorem dX2_hopefulDeeds_32 : decode cX2_hopefulDeeds 32 = .ok (.goto (-28), 3) := by decide +kernel
theorem dX2_hopefulDeeds_35 : decode cX2_hopefulDeeds 35 = .ok (.iload_n 1, 1) := by decide +kernel
theorem dX2_hopefulDeeds_36 : decode cX2_hopefulDeeds 36 = .ok (.ireturn, 1) := by decide +kernel
theorem dX2_timesAsked_0 : decode cX2_timesAsked 0 = .ok (.iconst 0, 1) := by decide +kernel
theorem dX2_timesAsked_1 : decode cX2_timesAsked 1 = .ok (.istore_n 3, 1) := by decide +kernel
theorem dX2_timesAsked_2 : decode cX2_timesAsked 2 = .ok (.iconst 0, 1) := by decide +kernel
theorem dX2_timesAsked_3 : decode cX2_timesAsked 3 = .ok (.istore 4, 2) := by decide +kernel
theorem dX2_timesAsked_5 : decode cX2_timesAsked 5 = .ok (.iload 4, 2) := by decide +kernel
theorem dX2_timesAsked_7 : decode cX2_timesAsked 7 = .ok (.aload_n 0, 1) := by decide +kernel
theorem dX2_timesAsked_8 : decode cX2_timesAsked 8 = .ok (.getfield 12, 3) := by decide +kernel
theorem dX2_timesAsked_11 : decode cX2_timesAsked 11 = .ok (.getfield 55, 3) := by decide +kernel
theorem dX2_timesAsked_14 : decode cX2_timesAsked 14 = .ok (.if_icmp .ge 36, 3) := by decide +kernel
theorem dX2_timesAsked_17 : decode cX2_timesAsked 17 = .ok (.aload_n 0, 1) := by decide +kernel
theorem dX2_timesAsked_18 : decode cX2_timesAsked 18 = .ok (.iload 4, 2) := by decide +kernel
theorem dX2_timesAsked_20 : decode cX2_timesAsked 20 = .ok (.iload_n 2, 1) := by decide +kernel
theorem dX2_timesAsked_21 : decode cX2_timesAsked 21 = .ok (.invokevirtual 112, 3) := by decide +kernel
theorem dX2_timesAsked_24 : decode cX2_timesAsked 24 = .ok (.ifCond .eq 20, 3) := by decide +kernel
theorem dX2_timesAsked_27 : decode cX2_timesAsked 27 = .ok (.aload_n 0, 1) := by decide +kernel
theorem dX2_timesAsked_28 : decode cX2_timesAsked 28 = .ok (.iload 4, 2) := by decide +kernel
theorem dX2_timesAsked_30 : decode cX2_timesAsked 30 = .ok (.iload_n 2, 1) := by decide +kernel
theorem dX2_timesAsked_31 : decode cX2_timesAsked 31 = .ok (.invokevirtual 118, 3) := by decide +kernel
theorem dX2_timesAsked_34 : decode cX2_timesAsked 34 = .ok (.iload_n 1, 1) := by decide +kernel
theorem dX2_timesAsked_35 : decode cX2_timesAsked 35 = .ok (.invokestatic 96, 3) := by decide +kernel
theorem dX2_timesAsked_38 : decode cX2_timesAsked 38 = .ok (.ifCond .eq 6, 3) := by decide +kernel
theorem dX2_timesAsked_41 : decode cX2_timesAsked 41 = .ok (.iinc 3 1, 3) := by decide +kernel
theorem dX2_timesAsked_44 : decode cX2_timesAsked 44 = .ok (.iinc 4 1, 3) := by decide +kernel
theorem dX2_timesAsked_47 : decode cX2_timesAsked 47 = .ok (.goto (-42), 3) := by decide +kernel
theorem dX2_timesAsked_50 : decode cX2_timesAsked 50 = .ok (.iload_n 3, 1) := by decide +kernel
theorem dX2_timesAsked_51 : decode cX2_timesAsked 51 = .ok (.ireturn, 1) := by decide +kernel
theorem dX2_tenths_0 : decode cX2_tenths 0 = .ok (.aload_n 0, 1) := by decide +kernel
theorem dX2_tenths_1 : decode cX2_tenths 1 = .ok (.getfield 40, 3) := by decide +kernel
theorem dX2_tenths_4 : decode cX2_tenths 4 = .ok (.iload_n 1, 1) := by decide +kernel
theorem dX2_tenths_5 : decode cX2_tenths 5 = .ok (.baload, 1) := by decide +kernel
theorem dX2_tenths_6 : decode cX2_tenths 6 = .ok (.ifCond .eq 7, 3) := by decide +kernel
theorem dX2_tenths_9 : decode cX2_tenths 9 = .ok (.iconst 4, 1) := by decide +kernel
theorem dX2_tenths_10 : decode cX2_tenths 10 = .ok (.goto 4, 3) := by decide +kernel
theorem dX2_tenths_13 : decode cX2_tenths 13 = .ok (.iconst 0, 1) := by decide +kernel
theorem dX2_tenths_14 : decode cX2_tenths 14 = .ok (.istore_n 3, 1) := by decide +kernel
theorem dX2_tenths_15 : decode cX2_tenths 15 = .ok (.aload_n 0, 1) := by decide +kernel
theorem dX2_tenths_16 : decode cX2_tenths 16 = .ok (.getfield 36, 3) := by decide +kernel
theorem dX2_tenths_19 : decode cX2_tenths 19 = .ok (.iload_n 1, 1) := by decide +kernel
theorem dX2_tenths_20 : decode cX2_tenths 20 = .ok (.baload, 1) := by decide +kernel
theorem dX2_tenths_21 : decode cX2_tenths 21 = .ok (.ifCond .ne 24, 3) := by decide +kernel
theorem dX2_tenths_24 : decode cX2_tenths 24 = .ok (.aload_n 0, 1) := by decide +kernel
theorem dX2_tenths_25 : decode cX2_tenths 25 = .ok (.getfield 12, 3) := by decide +kernel
theorem dX2_tenths_28 : decode cX2_tenths 28 = .ok (.getfield 121, 3) := by decide +kernel
theorem dX2_tenths_31 : decode cX2_tenths 31 = .ok (.iload_n 1, 1) := by decide +kernel
theorem dX2_tenths_32 : decode cX2_tenths 32 = .ok (.iaload, 1) := by decide +kernel
theorem dX2_tenths_33 : decode cX2_tenths 33 = .ok (.aload_n 0, 1) := by decide +kernel
theorem dX2_tenths_34 : decode cX2_tenths 34 = .ok (.getfield 28, 3) := by decide +kernel
theorem dX2_tenths_37 : decode cX2_tenths 37 = .ok (.getfield 124, 3) := by decide +kernel
theorem dX2_tenths_40 : decode cX2_tenths 40 = .ok (.iload_n 2, 1) := by decide +kernel
theorem dX2_tenths_41 : decode cX2_tenths 41 = .ok (.iaload, 1) := by decide +kernel
theorem dX2_tenths_42 : decode cX2_tenths 42 = .ok (.if_icmp .ne 6, 3) := by decide +kernel
theorem dX2_tenths_45 : decode cX2_tenths 45 = .ok (.iinc 3 3, 3) := by decide +kernel
theorem dX2_tenths_48 : decode cX2_tenths 48 = .ok (.aload_n 0, 1) := by decide +kernel
theorem dX2_tenths_49 : decode cX2_tenths 49 = .ok (.getfield 12, 3) := by decide +kernel
theorem dX2_tenths_52 : decode cX2_tenths 52 = .ok (.getfield 74, 3) := by decide +kernel
theorem dX2_tenths_55 : decode cX2_tenths 55 = .ok (.iload_n 1, 1) := by decide +kernel
theorem dX2_tenths_56 : decode cX2_tenths 56 = .ok (.iaload, 1) := by decide +kernel
theorem dX2_tenths_57 : decode cX2_tenths 57 = .ok (.invokestatic 77, 3) := by decide +kernel
theorem dX2_tenths_60 : decode cX2_tenths 60 = .ok (.istore 4, 2) := by decide +kernel
theorem dX2_tenths_62 : decode cX2_tenths 62 = .ok (.iload 4, 2) := by decide +kernel
theorem dX2_tenths_64 : decode cX2_tenths 64 = .ok (.ifCond .ne 7, 3) := by decide +kernel
theorem dX2_tenths_67 : decode cX2_tenths 67 = .ok (.iload_n 3, 1) := by decide +kernel
theorem dX2_tenths_68 : decode cX2_tenths 68 = .ok (.goto 19, 3) := by decide +kernel
theorem dX2_tenths_71 : decode cX2_tenths 71 = .ok (.iload_n 3, 1) := by decide +kernel
theorem dX2_tenths_72 : decode cX2_tenths 72 = .ok (.iconst 3, 1) := by decide +kernel
theorem dX2_tenths_73 : decode cX2_tenths 73 = .ok (.aload_n 0, 1) := by decide +kernel
theorem dX2_tenths_74 : decode cX2_tenths 74 = .ok (.iload_n 1, 1) := by decide +kernel
theorem dX2_tenths_75 : decode cX2_tenths 75 = .ok (.iload_n 2, 1) := by decide +kernel
theorem dX2_tenths_76 : decode cX2_tenths 76 = .ok (.invokevirtual 118, 3) := by decide +kernel
theorem dX2_tenths_79 : decode cX2_tenths 79 = .ok (.invokestatic 77, 3) := by decide +kernel
theorem dX2_tenths_82 : decode cX2_tenths 82 = .ok (.imul, 1) := by decide +kernel
theorem dX2_tenths_83 : decode cX2_tenths 83 = .ok (.iload 4, 2) := by decide +kernel
theorem dX2_tenths_85 : decode cX2_tenths 85 = .ok (.idiv, 1) := by decide +kernel
theorem dX2_tenths_86 : decode cX2_tenths 86 = .ok (.iadd, 1) := by decide +kernel
theorem dX2_tenths_87 : decode cX2_tenths 87 = .ok (.ireturn, 1) := by decide +kernel
theorem dX2_isTurned_0 : decode cX2_isTurned 0 = .ok (.aload_n 0, 1) := by decide +kernel
theorem dX2_isTurned_1 : decode cX2_isTurned 1 = .ok (.getfield 36, 3) := by decide +kernel
theorem dX2_isTurned_4 : decode cX2_isTurned 4 = .ok (.iload_n 1, 1) := by decide +kernel
theorem dX2_isTurned_5 : decode cX2_isTurned 5 = .ok (.baload, 1) := by decide +kernel
theorem dX2_isTurned_6 : decode cX2_isTurned 6 = .ok (.ifCond .eq 28, 3) := by decide +kernel
theorem dX2_isTurned_9 : decode cX2_isTurned 9 = .ok (.aload_n 0, 1) := by decide +kernel
theorem dX2_isTurned_10 : decode cX2_isTurned 10 = .ok (.getfield 12, 3) := by decide +kernel
theorem dX2_isTurned_13 : decode cX2_isTurned 13 = .ok (.getfield 121, 3) := by decide +kernel
theorem dX2_isTurned_16 : decode cX2_isTurned 16 = .ok (.iload_n 1, 1) := by decide +kernel
theorem dX2_isTurned_17 : decode cX2_isTurned 17 = .ok (.iaload, 1) := by decide +kernel
theorem dX2_isTurned_18 : decode cX2_isTurned 18 = .ok (.aload_n 0, 1) := by decide +kernel
theorem dX2_isTurned_19 : decode cX2_isTurned 19 = .ok (.getfield 28, 3) := by decide +kernel
theorem dX2_isTurned_22 : decode cX2_isTurned 22 = .ok (.getfield 124, 3) := by decide +kernel
theorem dX2_isTurned_25 : decode cX2_isTurned 25 = .ok (.iload_n 2, 1) := by decide +kernel
theorem dX2_isTurned_26 : decode cX2_isTurned 26 = .ok (.iaload, 1) := by decide +kernel
theorem dX2_isTurned_27 : decode cX2_isTurned 27 = .ok (.if_icmp .eq 7, 3) := by decide +kernel
theorem dX2_isTurned_30 : decode cX2_isTurned 30 = .ok (.iconst 1, 1) := by decide +kernel
theorem dX2_isTurned_31 : decode cX2_isTurned 31 = .ok (.goto 4, 3) := by decide +kernel
theorem dX2_isTurned_34 : decode cX2_isTurned 34 = .ok (.iconst 0, 1) := by decide +kernel
theorem dX2_isTurned_35 : decode cX2_isTurned 35 = .ok (.ireturn, 1) := by decide +kernel
theorem dX2_areApart_0 : decode cX2_areApart 0 = .ok (.aload_n 0, 1) := by decide +kernel
theorem dX2_areApart_1 : decode cX2_areApart 1 = .ok (.getfield 43, 3) := by decide +kernel
theorem dX2_areApart_4 : decode cX2_areApart 4 = .ok (.iload_n 1, 1) := by decide +kernel
theorem dX2_areApart_5 : decode cX2_areApart 5 = .ok (.bipush 8, 2) := by decide +kernel
theorem dX2_areApart_7 : decode cX2_areApart 7 = .ok (.imul, 1) := by decide +kernel
theorem dX2_areApart_8 : decode cX2_areApart 8 = .ok (.iload_n 3, 1) := by decide +kernel
theorem dX2_areApart_9 : decode cX2_areApart 9 = .ok (.iadd, 1) := by decide +kernel
theorem dX2_areApart_10 : decode cX2_areApart 10 = .ok (.iaload, 1) := by decide +kernel
theorem dX2_areApart_11 : decode cX2_areApart 11 = .ok (.aload_n 0, 1) := by decide +kernel
theorem dX2_areApart_12 : decode cX2_areApart 12 = .ok (.getfield 43, 3) := by decide +kernel
theorem dX2_areApart_15 : decode cX2_areApart 15 = .ok (.iload_n 2, 1) := by decide +kernel
theorem dX2_areApart_16 : decode cX2_areApart 16 = .ok (.bipush 8, 2) := by decide +kernel
theorem dX2_areApart_18 : decode cX2_areApart 18 = .ok (.imul, 1) := by decide +kernel
theorem dX2_areApart_19 : decode cX2_areApart 19 = .ok (.iload_n 3, 1) := by decide +kernel
theorem dX2_areApart_20 : decode cX2_areApart 20 = .ok (.iadd, 1) := by decide +kernel
theorem dX2_areApart_21 : decode cX2_areApart 21 = .ok (.iaload, 1) := by decide +kernel
theorem dX2_areApart_22 : decode cX2_areApart 22 = .ok (.iand, 1) := by decide +kernel
theorem dX2_areApart_23 : decode cX2_areApart 23 = .ok (.ifCond .ne 81, 3) := by decide +kernel
theorem dX2_areApart_26 : decode cX2_areApart 26 = .ok (.aload_n 0, 1) := by decide +kernel
theorem dX2_areApart_27 : decode cX2_areApart 27 = .ok (.getfield 40, 3) := by decide +kernel
theorem dX2_areApart_30 : decode cX2_areApart 30 = .ok (.iload_n 1, 1) := by decide +kernel
theorem dX2_areApart_31 : decode cX2_areApart 31 = .ok (.baload, 1) := by decide +kernel
theorem dX2_areApart_32 : decode cX2_areApart 32 = .ok (.ifCond .eq 33, 3) := by decide +kernel
theorem dX2_areApart_35 : decode cX2_areApart 35 = .ok (.aload_n 0, 1) := by decide +kernel
theorem dX2_areApart_36 : decode cX2_areApart 36 = .ok (.getfield 40, 3) := by decide +kernel
theorem dX2_areApart_39 : decode cX2_areApart 39 = .ok (.iload_n 2, 1) := by decide +kernel
theorem dX2_areApart_40 : decode cX2_areApart 40 = .ok (.baload, 1) := by decide +kernel
theorem dX2_areApart_41 : decode cX2_areApart 41 = .ok (.ifCond .eq 24, 3) := by decide +kernel
theorem dX2_areApart_44 : decode cX2_areApart 44 = .ok (.aload_n 0, 1) := by decide +kernel
theorem dX2_areApart_45 : decode cX2_areApart 45 = .ok (.getfield 12, 3) := by decide +kernel
theorem dX2_areApart_48 : decode cX2_areApart 48 = .ok (.getfield 127, 3) := by decide +kernel
theorem dX2_areApart_51 : decode cX2_areApart 51 = .ok (.iload_n 1, 1) := by decide +kernel
theorem dX2_areApart_52 : decode cX2_areApart 52 = .ok (.iaload, 1) := by decide +kernel
theorem dX2_areApart_53 : decode cX2_areApart 53 = .ok (.aload_n 0, 1) := by decide +kernel
theorem dX2_areApart_54 : decode cX2_areApart 54 = .ok (.getfield 12, 3) := by decide +kernel
theorem dX2_areApart_57 : decode cX2_areApart 57 = .ok (.getfield 127, 3) := by decide +kernel
theorem dX2_areApart_60 : decode cX2_areApart 60 = .ok (.iload_n 2, 1) := by decide +kernel
theorem dX2_areApart_61 : decode cX2_areApart 61 = .ok (.iaload, 1) := by decide +kernel
theorem dX2_areApart_62 : decode cX2_areApart 62 = .ok (.if_icmp .eq 42, 3) := by decide +kernel
theorem dX2_areApart_65 : decode cX2_areApart 65 = .ok (.aload_n 0, 1) := by decide +kernel
theorem dX2_areApart_66 : decode cX2_areApart 66 = .ok (.getfield 36, 3) := by decide +kernel
theorem dX2_areApart_69 : decode cX2_areApart 69 = .ok (.iload_n 1, 1) := by decide +kernel
theorem dX2_areApart_70 : decode cX2_areApart 70 = .ok (.baload, 1) := by decide +kernel
theorem dX2_areApart_71 : decode cX2_areApart 71 = .ok (.ifCond .eq 37, 3) := by decide +kernel
theorem dX2_areApart_74 : decode cX2_areApart 74 = .ok (.aload_n 0, 1) := by decide +kernel
theorem dX2_areApart_75 : decode cX2_areApart 75 = .ok (.getfield 36, 3) := by decide +kernel
theorem dX2_areApart_78 : decode cX2_areApart 78 = .ok (.iload_n 2, 1) := by decide +kernel
theorem dX2_areApart_79 : decode cX2_areApart 79 = .ok (.baload, 1) := by decide +kernel
theorem dX2_areApart_80 : decode cX2_areApart 80 = .ok (.ifCond .eq 28, 3) := by decide +kernel
theorem dX2_areApart_83 : decode cX2_areApart 83 = .ok (.aload_n 0, 1) := by decide +kernel
theorem dX2_areApart_84 : decode cX2_areApart 84 = .ok (.getfield 12, 3) := by decide +kernel
theorem dX2_areApart_87 : decode cX2_areApart 87 = .ok (.getfield 121, 3) := by decide +kernel
theorem dX2_areApart_90 : decode cX2_areApart 90 = .ok (.iload_n 1, 1) := by decide +kernel
theorem dX2_areApart_91 : decode cX2_areApart 91 = .ok (.iaload, 1) := by decide +kernel
theorem dX2_areApart_92 : decode cX2_areApart 92 = .ok (.aload_n 0, 1) := by decide +kernel
theorem dX2_areApart_93 : decode cX2_areApart 93 = .ok (.getfield 12, 3) := by decide +kernel
theorem dX2_areApart_96 : decode cX2_areApart 96 = .ok (.getfield 121, 3) := by decide +kernel
theorem dX2_areApart_99 : decode cX2_areApart 99 = .ok (.iload_n 2, 1) := by decide +kernel
theorem dX2_areApart_100 : decode cX2_areApart 100 = .ok (.iaload, 1) := by decide +kernel
theorem dX2_areApart_101 : decode cX2_areApart 101 = .ok (.if_icmp .eq 7, 3) := by decide +kernel
theorem dX2_areApart_104 : decode cX2_areApart 104 = .ok (.iconst 1, 1) := by decide +kernel
theorem dX2_areApart_105 : decode cX2_areApart 105 = .ok (.goto 4, 3) := by decide +kernel
theorem dX2_areApart_108 : decode cX2_areApart 108 = .ok (.iconst 0, 1) := by decide +kernel
theorem dX2_areApart_109 : decode cX2_areApart 109 = .ok (.ireturn, 1) := by decide +kernel
theorem dX2_isPlan_0 : decode cX2_isPlan 0 = .ok (.iconst 0, 1) := by decide +kernel
theorem dX2_isPlan_1 : decode cX2_isPlan 1 = .ok (.istore_n 2, 1) := by decide +kernel
theorem dX2_isPlan_2 : decode cX2_isPlan 2 = .ok (.iload_n 2, 1) := by decide +kernel
theorem dX2_isPlan_3 : decode cX2_isPlan 3 = .ok (.aload_n 0, 1) := by decide +kernel
theorem dX2_isPlan_4 : decode cX2_isPlan 4 = .ok (.getfield 12, 3) := by decide +kernel
theorem dX2_isPlan_7 : decode cX2_isPlan 7 = .ok (.getfield 55, 3) := by decide +kernel
theorem dX2_isPlan_10 : decode cX2_isPlan 10 = .ok (.if_icmp .ge 27, 3) := by decide +kernel
theorem dX2_isPlan_13 : decode cX2_isPlan 13 = .ok (.aload_n 1, 1) := by decide +kernel
theorem dX2_isPlan_14 : decode cX2_isPlan 14 = .ok (.iload_n 2, 1) := by decide +kernel
theorem dX2_isPlan_15 : decode cX2_isPlan 15 = .ok (.iaload, 1) := by decide +kernel
theorem dX2_isPlan_16 : decode cX2_isPlan 16 = .ok (.iconst (-1), 1) := by decide +kernel
theorem dX2_isPlan_17 : decode cX2_isPlan 17 = .ok (.if_icmp .eq 14, 3) := by decide +kernel
theorem dX2_isPlan_20 : decode cX2_isPlan 20 = .ok (.aload_n 0, 1) := by decide +kernel
theorem dX2_isPlan_21 : decode cX2_isPlan 21 = .ok (.aload_n 1, 1) := by decide +kernel
theorem dX2_isPlan_22 : decode cX2_isPlan 22 = .ok (.iload_n 2, 1) := by decide +kernel
theorem dX2_isPlan_23 : decode cX2_isPlan 23 = .ok (.invokevirtual 130, 3) := by decide +kernel
theorem dX2_isPlan_26 : decode cX2_isPlan 26 = .ok (.ifCond .ne 5, 3) := by decide +kernel
theorem dX2_isPlan_29 : decode cX2_isPlan 29 = .ok (.iconst 0, 1) := by decide +kernel
theorem dX2_isPlan_30 : decode cX2_isPlan 30 = .ok (.ireturn, 1) := by decide +kernel
theorem dX2_isPlan_31 : decode cX2_isPlan 31 = .ok (.iinc 2 1, 3) := by decide +kernel
theorem dX2_isPlan_34 : decode cX2_isPlan 34 = .ok (.goto (-32), 3) := by decide +kernel
theorem dX2_isPlan_37 : decode cX2_isPlan 37 = .ok (.iconst 1, 1) := by decide +kernel
theorem dX2_isPlan_38 : decode cX2_isPlan 38 = .ok (.ireturn, 1) := by decide +kernel
theorem dX2_fitsBehind_0 : decode cX2_fitsBehind 0 = .ok (.aload_n 1, 1) := by decide +kernel
theorem dX2_fitsBehind_1 : decode cX2_fitsBehind 1 = .ok (.iload_n 2, 1) := by decide +kernel
theorem dX2_fitsBehind_2 : decode cX2_fitsBehind 2 = .ok (.iaload, 1) := by decide +kernel
theorem dX2_fitsBehind_3 : decode cX2_fitsBehind 3 = .ok (.istore_n 3, 1) := by decide +kernel
theorem dX2_fitsBehind_4 : decode cX2_fitsBehind 4 = .ok (.iload_n 3, 1) := by decide +kernel
theorem dX2_fitsBehind_5 : decode cX2_fitsBehind 5 = .ok (.bipush 7, 2) := by decide +kernel
theorem dX2_fitsBehind_7 : decode cX2_fitsBehind 7 = .ok (.invokestatic 134, 3) := by decide +kernel
theorem dX2_fitsBehind_10 : decode cX2_fitsBehind 10 = .ok (.ifCond .eq 12, 3) := by decide +kernel
theorem dX2_fitsBehind_13 : decode cX2_fitsBehind 13 = .ok (.aload_n 0, 1) := by decide +kernel
theorem dX2_fitsBehind_14 : decode cX2_fitsBehind 14 = .ok (.iload_n 2, 1) := by decide +kernel
theorem dX2_fitsBehind_15 : decode cX2_fitsBehind 15 = .ok (.iload_n 3, 1) := by decide +kernel
theorem dX2_fitsBehind_16 : decode cX2_fitsBehind 16 = .ok (.invokevirtual 112, 3) := by decide +kernel
theorem dX2_fitsBehind_19 : decode cX2_fitsBehind 19 = .ok (.ifCond .ne 5, 3) := by decide +kernel
theorem dX2_fitsBehind_22 : decode cX2_fitsBehind 22 = .ok (.iconst 0, 1) := by decide +kernel
theorem dX2_fitsBehind_23 : decode cX2_fitsBehind 23 = .ok (.ireturn, 1) := by decide +kernel
theorem dX2_fitsBehind_24 : decode cX2_fitsBehind 24 = .ok (.iconst 0, 1) := by decide +kernel
theorem dX2_fitsBehind_25 : decode cX2_fitsBehind 25 = .ok (.istore 4, 2) := by decide +kernel
theorem dX2_fitsBehind_27 : decode cX2_fitsBehind 27 = .ok (.iload 4, 2) := by decide +kernel
theorem dX2_fitsBehind_29 : decode cX2_fitsBehind 29 = .ok (.iload_n 2, 1) := by decide +kernel
theorem dX2_fitsBehind_30 : decode cX2_fitsBehind 30 = .ok (.if_icmp .ge 30, 3) := by decide +kernel
theorem dX2_fitsBehind_33 : decode cX2_fitsBehind 33 = .ok (.aload_n 1, 1) := by decide +kernel
theorem dX2_fitsBehind_34 : decode cX2_fitsBehind 34 = .ok (.iload 4, 2) := by decide +kernel
theorem dX2_fitsBehind_36 : decode cX2_fitsBehind 36 = .ok (.iaload, 1) := by decide +kernel
theorem dX2_fitsBehind_37 : decode cX2_fitsBehind 37 = .ok (.iload_n 3, 1) := by decide +kernel
theorem dX2_fitsBehind_38 : decode cX2_fitsBehind 38 = .ok (.if_icmp .ne 16, 3) := by decide +kernel
theorem dX2_fitsBehind_41 : decode cX2_fitsBehind 41 = .ok (.aload_n 0, 1) := by decide +kernel
theorem dX2_fitsBehind_42 : decode cX2_fitsBehind 42 = .ok (.iload_n 2, 1) := by decide +kernel
theorem dX2_fitsBehind_43 : decode cX2_fitsBehind 43 = .ok (.iload 4, 2) := by decide +kernel
theorem dX2_fitsBehind_45 : decode cX2_fitsBehind 45 = .ok (.iload_n 3, 1) := by decide +kernel
theorem dX2_fitsBehind_46 : decode cX2_fitsBehind 46 = .ok (.invokevirtual 137, 3) := by decide +kernel
theorem dX2_fitsBehind_49 : decode cX2_fitsBehind 49 = .ok (.ifCond .eq 5, 3) := by decide +kernel
theorem dX2_fitsBehind_52 : decode cX2_fitsBehind 52 = .ok (.iconst 0, 1) := by decide +kernel
theorem dX2_fitsBehind_53 : decode cX2_fitsBehind 53 = .ok (.ireturn, 1) := by decide +kernel
theorem dX2_fitsBehind_54 : decode cX2_fitsBehind 54 = .ok (.iinc 4 1, 3) := by decide +kernel
theorem dX2_fitsBehind_57 : decode cX2_fitsBehind 57 = .ok (.goto (-30), 3) := by decide +kernel
theorem dX2_fitsBehind_60 : decode cX2_fitsBehind 60 = .ok (.iconst 1, 1) := by decide +kernel
theorem dX2_fitsBehind_61 : decode cX2_fitsBehind 61 = .ok (.ireturn, 1) := by decide +kernel
theorem dX2_worthOfPlan_0 : decode cX2_worthOfPlan 0 = .ok (.iconst 0, 1) := by decide +kernel
theorem dX2_worthOfPlan_1 : decode cX2_worthOfPlan 1 = .ok (.istore_n 2, 1) := by decide +kernel
theorem dX2_worthOfPlan_2 : decode cX2_worthOfPlan 2 = .ok (.iconst 0, 1) := by decide +kernel
theorem dX2_worthOfPlan_3 : decode cX2_worthOfPlan 3 = .ok (.istore_n 3, 1) := by decide +kernel
theorem dX2_worthOfPlan_4 : decode cX2_worthOfPlan 4 = .ok (.iload_n 3, 1) := by decide +kernel
theorem dX2_worthOfPlan_5 : decode cX2_worthOfPlan 5 = .ok (.aload_n 0, 1) := by decide +kernel
theorem dX2_worthOfPlan_6 : decode cX2_worthOfPlan 6 = .ok (.getfield 12, 3) := by decide +kernel
theorem dX2_worthOfPlan_9 : decode cX2_worthOfPlan 9 = .ok (.getfield 55, 3) := by decide +kernel
theorem dX2_worthOfPlan_12 : decode cX2_worthOfPlan 12 = .ok (.if_icmp .ge 28, 3) := by decide +kernel
theorem dX2_worthOfPlan_15 : decode cX2_worthOfPlan 15 = .ok (.aload_n 1, 1) := by decide +kernel
theorem dX2_worthOfPlan_16 : decode cX2_worthOfPlan 16 = .ok (.iload_n 3, 1) := by decide +kernel
theorem dX2_worthOfPlan_17 : decode cX2_worthOfPlan 17 = .ok (.iaload, 1) := by decide +kernel
theorem dX2_worthOfPlan_18 : decode cX2_worthOfPlan 18 = .ok (.iconst (-1), 1) := by decide +kernel
theorem dX2_worthOfPlan_19 : decode cX2_worthOfPlan 19 = .ok (.if_icmp .eq 15, 3) := by decide +kernel
theorem dX2_worthOfPlan_22 : decode cX2_worthOfPlan 22 = .ok (.iload_n 2, 1) := by decide +kernel
theorem dX2_worthOfPlan_23 : decode cX2_worthOfPlan 23 = .ok (.aload_n 0, 1) := by decide +kernel
theorem dX2_worthOfPlan_24 : decode cX2_worthOfPlan 24 = .ok (.getfield 12, 3) := by decide +kernel
theorem dX2_worthOfPlan_27 : decode cX2_worthOfPlan 27 = .ok (.getfield 141, 3) := by decide +kernel
theorem dX2_worthOfPlan_30 : decode cX2_worthOfPlan 30 = .ok (.iload_n 3, 1) := by decide +kernel
theorem dX2_worthOfPlan_31 : decode cX2_worthOfPlan 31 = .ok (.iaload, 1) := by decide +kernel
theorem dX2_worthOfPlan_32 : decode cX2_worthOfPlan 32 = .ok (.iadd, 1) := by decide +kernel
theorem dX2_worthOfPlan_33 : decode cX2_worthOfPlan 33 = .ok (.istore_n 2, 1) := by decide +kernel
theorem dX2_worthOfPlan_34 : decode cX2_worthOfPlan 34 = .ok (.iinc 3 1, 3) := by decide +kernel
theorem dX2_worthOfPlan_37 : decode cX2_worthOfPlan 37 = .ok (.goto (-33), 3) := by decide +kernel
theorem dX2_worthOfPlan_40 : decode cX2_worthOfPlan 40 = .ok (.iload_n 2, 1) := by decide +kernel
theorem dX2_worthOfPlan_41 : decode cX2_worthOfPlan 41 = .ok (.ireturn, 1) := by decide +kernel
theorem dX2_costOfPlan_0 : decode cX2_costOfPlan 0 = .ok (.iconst 0, 1) := by decide +kernel
theorem dX2_costOfPlan_1 : decode cX2_costOfPlan 1 = .ok (.istore_n 2, 1) := by decide +kernel
theorem dX2_costOfPlan_2 : decode cX2_costOfPlan 2 = .ok (.iconst 0, 1) := by decide +kernel
theorem dX2_costOfPlan_3 : decode cX2_costOfPlan 3 = .ok (.istore_n 3, 1) := by decide +kernel
theorem dX2_costOfPlan_4 : decode cX2_costOfPlan 4 = .ok (.iconst 0, 1) := by decide +kernel
theorem dX2_costOfPlan_5 : decode cX2_costOfPlan 5 = .ok (.istore 4, 2) := by decide +kernel
theorem dX2_costOfPlan_7 : decode cX2_costOfPlan 7 = .ok (.iload 4, 2) := by decide +kernel
theorem dX2_costOfPlan_9 : decode cX2_costOfPlan 9 = .ok (.aload_n 0, 1) := by decide +kernel
theorem dX2_costOfPlan_10 : decode cX2_costOfPlan 10 = .ok (.getfield 12, 3) := by decide +kernel
theorem dX2_costOfPlan_13 : decode cX2_costOfPlan 13 = .ok (.getfield 55, 3) := by decide +kernel
theorem dX2_costOfPlan_16 : decode cX2_costOfPlan 16 = .ok (.if_icmp .ge 58, 3) := by decide +kernel
theorem dX2_costOfPlan_19 : decode cX2_costOfPlan 19 = .ok (.aload_n 1, 1) := by decide +kernel
theorem dX2_costOfPlan_20 : decode cX2_costOfPlan 20 = .ok (.iload 4, 2) := by decide +kernel
theorem dX2_costOfPlan_22 : decode cX2_costOfPlan 22 = .ok (.iaload, 1) := by decide +kernel
theorem dX2_costOfPlan_23 : decode cX2_costOfPlan 23 = .ok (.istore 5, 2) := by decide +kernel
theorem dX2_costOfPlan_25 : decode cX2_costOfPlan 25 = .ok (.iload 5, 2) := by decide +kernel
theorem dX2_costOfPlan_27 : decode cX2_costOfPlan 27 = .ok (.bipush 7, 2) := by decide +kernel
theorem dX2_costOfPlan_29 : decode cX2_costOfPlan 29 = .ok (.invokestatic 134, 3) := by decide +kernel
theorem dX2_costOfPlan_32 : decode cX2_costOfPlan 32 = .ok (.ifCond .eq 36, 3) := by decide +kernel
theorem dX2_costOfPlan_35 : decode cX2_costOfPlan 35 = .ok (.iload_n 2, 1) := by decide +kernel
theorem dX2_costOfPlan_36 : decode cX2_costOfPlan 36 = .ok (.aload_n 0, 1) := by decide +kernel
theorem dX2_costOfPlan_37 : decode cX2_costOfPlan 37 = .ok (.iload 4, 2) := by decide +kernel
theorem dX2_costOfPlan_39 : decode cX2_costOfPlan 39 = .ok (.iload 5, 2) := by decide +kernel
theorem dX2_costOfPlan_41 : decode cX2_costOfPlan 41 = .ok (.invokevirtual 109, 3) := by decide +kernel
theorem dX2_costOfPlan_44 : decode cX2_costOfPlan 44 = .ok (.iadd, 1) := by decide +kernel
theorem dX2_costOfPlan_45 : decode cX2_costOfPlan 45 = .ok (.istore_n 2, 1) := by decide +kernel
theorem dX2_costOfPlan_46 : decode cX2_costOfPlan 46 = .ok (.iload_n 3, 1) := by decide +kernel
theorem dX2_costOfPlan_47 : decode cX2_costOfPlan 47 = .ok (.aload_n 0, 1) := by decide +kernel
theorem dX2_costOfPlan_48 : decode cX2_costOfPlan 48 = .ok (.iload 4, 2) := by decide +kernel
theorem dX2_costOfPlan_50 : decode cX2_costOfPlan 50 = .ok (.iload 5, 2) := by decide +kernel
theorem dX2_costOfPlan_52 : decode cX2_costOfPlan 52 = .ok (.invokevirtual 103, 3) := by decide +kernel
theorem dX2_costOfPlan_55 : decode cX2_costOfPlan 55 = .ok (.ifCond .eq 10, 3) := by decide +kernel
theorem dX2_costOfPlan_58 : decode cX2_costOfPlan 58 = .ok (.iconst 1, 1) := by decide +kernel
theorem dX2_costOfPlan_59 : decode cX2_costOfPlan 59 = .ok (.iload 5, 2) := by decide +kernel
theorem dX2_costOfPlan_61 : decode cX2_costOfPlan 61 = .ok (.ishl, 1) := by decide +kernel
theorem dX2_costOfPlan_62 : decode cX2_costOfPlan 62 = .ok (.goto 4, 3) := by decide +kernel
theorem dX2_costOfPlan_65 : decode cX2_costOfPlan 65 = .ok (.iconst 0, 1) := by decide +kernel
theorem dX2_costOfPlan_66 : decode cX2_costOfPlan 66 = .ok (.ior, 1) := by decide +kernel
theorem dX2_costOfPlan_67 : decode cX2_costOfPlan 67 = .ok (.istore_n 3, 1) := by decide +kernel
theorem dX2_costOfPlan_68 : decode cX2_costOfPlan 68 = .ok (.iinc 4 1, 3) := by decide +kernel
theorem dX2_costOfPlan_71 : decode cX2_costOfPlan 71 = .ok (.goto (-64), 3) := by decide +kernel
theorem dX2_costOfPlan_74 : decode cX2_costOfPlan 74 = .ok (.iload_n 2, 1) := by decide +kernel
theorem dX2_costOfPlan_75 : decode cX2_costOfPlan 75 = .ok (.iload_n 3, 1) := by decide +kernel
theorem dX2_costOfPlan_76 : decode cX2_costOfPlan 76 = .ok (.invokestatic 77, 3) := by decide +kernel
theorem dX2_costOfPlan_79 : decode cX2_costOfPlan 79 = .ok (.aload_n 0, 1) := by decide +kernel
theorem dX2_costOfPlan_80 : decode cX2_costOfPlan 80 = .ok (.getfield 28, 3) := by decide +kernel
theorem dX2_costOfPlan_83 : decode cX2_costOfPlan 83 = .ok (.getfield 106, 3) := by decide +kernel
theorem dX2_costOfPlan_86 : decode cX2_costOfPlan 86 = .ok (.iconst 0, 1) := by decide +kernel
theorem dX2_costOfPlan_87 : decode cX2_costOfPlan 87 = .ok (.iaload, 1) := by decide +kernel
theorem dX2_costOfPlan_88 : decode cX2_costOfPlan 88 = .ok (.imul, 1) := by decide +kernel
theorem dX2_costOfPlan_89 : decode cX2_costOfPlan 89 = .ok (.iadd, 1) := by decide +kernel
theorem dX2_costOfPlan_90 : decode cX2_costOfPlan 90 = .ok (.ireturn, 1) := by decide +kernel
theorem dX3_init_0 : decode cX3_init 0 = .ok (.aload_n 0, 1) := by decide +kernel
theorem dX3_init_1 : decode cX3_init 1 = .ok (.invokespecial 3, 3) := by decide +kernel
theorem dX3_init_4 : decode cX3_init 4 = .ok (.aload_n 0, 1) := by decide +kernel
theorem dX3_init_5 : decode cX3_init 5 = .ok (.bipush 10, 2) := by decide +kernel
theorem dX3_init_7 : decode cX3_init 7 = .ok (.newarray .int, 2) := by decide +kernel
theorem dX3_init_9 : decode cX3_init 9 = .ok (.putfield 11, 3) := by decide +kernel
theorem dX3_init_12 : decode cX3_init 12 = .ok (.aload_n 0, 1) := by decide +kernel
theorem dX3_init_13 : decode cX3_init 13 = .ok (.bipush 10, 2) := by decide +kernel
theorem dX3_init_15 : decode cX3_init 15 = .ok (.newarray .int, 2) := by decide +kernel
theorem dX3_init_17 : decode cX3_init 17 = .ok (.putfield 15, 3) := by decide +kernel
theorem dX3_init_20 : decode cX3_init 20 = .ok (.return_, 1) := by decide +kernel
theorem dX3_isFull_0 : decode cX3_isFull 0 = .ok (.aload_n 0, 1) := by decide +kernel
theorem dX3_isFull_1 : decode cX3_isFull 1 = .ok (.getfield 18, 3) := by decide +kernel
theorem dX3_isFull_4 : decode cX3_isFull 4 = .ok (.bipush 10, 2) := by decide +kernel
theorem dX3_isFull_6 : decode cX3_isFull 6 = .ok (.if_icmp .lt 7, 3) := by decide +kernel
theorem dX3_isFull_9 : decode cX3_isFull 9 = .ok (.iconst 1, 1) := by decide +kernel
theorem dX3_isFull_10 : decode cX3_isFull 10 = .ok (.goto 4, 3) := by decide +kernel
theorem dX3_isFull_13 : decode cX3_isFull 13 = .ok (.iconst 0, 1) := by decide +kernel
theorem dX3_isFull_14 : decode cX3_isFull 14 = .ok (.ireturn, 1) := by decide +kernel
theorem dX3_add_0 : decode cX3_add 0 = .ok (.aload_n 0, 1) := by decide +kernel
theorem dX3_add_1 : decode cX3_add 1 = .ok (.getfield 18, 3) := by decide +kernel
theorem dX3_add_4 : decode cX3_add 4 = .ok (.bipush 10, 2) := by decide +kernel
theorem dX3_add_6 : decode cX3_add 6 = .ok (.if_icmp .ge 33, 3) := by decide +kernel
theorem dX3_add_9 : decode cX3_add 9 = .ok (.aload_n 0, 1) := by decide +kernel
theorem dX3_add_10 : decode cX3_add 10 = .ok (.getfield 11, 3) := by decide +kernel
theorem dX3_add_13 : decode cX3_add 13 = .ok (.aload_n 0, 1) := by decide +kernel
theorem dX3_add_14 : decode cX3_add 14 = .ok (.getfield 18, 3) := by decide +kernel
theorem dX3_add_17 : decode cX3_add 17 = .ok (.iload_n 1, 1) := by decide +kernel
theorem dX3_add_18 : decode cX3_add 18 = .ok (.iastore, 1) := by decide +kernel
theorem dX3_add_19 : decode cX3_add 19 = .ok (.aload_n 0, 1) := by decide +kernel
theorem dX3_add_20 : decode cX3_add 20 = .ok (.getfield 15, 3) := by decide +kernel
theorem dX3_add_23 : decode cX3_add 23 = .ok (.aload_n 0, 1) := by decide +kernel
theorem dX3_add_24 : decode cX3_add 24 = .ok (.getfield 18, 3) := by decide +kernel
theorem dX3_add_27 : decode cX3_add 27 = .ok (.iload_n 2, 1) := by decide +kernel
theorem dX3_add_28 : decode cX3_add 28 = .ok (.iastore, 1) := by decide +kernel
theorem dX3_add_29 : decode cX3_add 29 = .ok (.aload_n 0, 1) := by decide +kernel
theorem dX3_add_30 : decode cX3_add 30 = .ok (.dup, 1) := by decide +kernel
theorem dX3_add_31 : decode cX3_add 31 = .ok (.getfield 18, 3) := by decide +kernel
theorem dX3_add_34 : decode cX3_add 34 = .ok (.iconst 1, 1) := by decide +kernel
theorem dX3_add_35 : decode cX3_add 35 = .ok (.iadd, 1) := by decide +kernel
theorem dX3_add_36 : decode cX3_add 36 = .ok (.putfield 18, 3) := by decide +kernel
theorem dX3_add_39 : decode cX3_add 39 = .ok (.aload_n 0, 1) := by decide +kernel
theorem dX3_add_40 : decode cX3_add 40 = .ok (.getfield 18, 3) := by decide +kernel
theorem dX3_add_43 : decode cX3_add 43 = .ok (.ireturn, 1) := by decide +kernel
theorem dX3_clear_0 : decode cX3_clear 0 = .ok (.aload_n 0, 1) := by decide +kernel
theorem dX3_clear_1 : decode cX3_clear 1 = .ok (.getfield 18, 3) := by decide +kernel
theorem dX3_clear_4 : decode cX3_clear 4 = .ok (.istore_n 1, 1) := by decide +kernel
theorem dX3_clear_5 : decode cX3_clear 5 = .ok (.aload_n 0, 1) := by decide +kernel
theorem dX3_clear_6 : decode cX3_clear 6 = .ok (.iconst 0, 1) := by decide +kernel
theorem dX3_clear_7 : decode cX3_clear 7 = .ok (.putfield 18, 3) := by decide +kernel
theorem dX3_clear_10 : decode cX3_clear 10 = .ok (.iload_n 1, 1) := by decide +kernel
theorem dX3_clear_11 : decode cX3_clear 11 = .ok (.ireturn, 1) := by decide +kernel
theorem dX3_reached_0 : decode cX3_reached 0 = .ok (.iload_n 1, 1) := by decide +kernel
theorem dX3_reached_1 : decode cX3_reached 1 = .ok (.istore_n 3, 1) := by decide +kernel
theorem dX3_reached_2 : decode cX3_reached 2 = .ok (.iconst 0, 1) := by decide +kernel
theorem dX3_reached_3 : decode cX3_reached 3 = .ok (.istore 4, 2) := by decide +kernel
theorem dX3_reached_5 : decode cX3_reached 5 = .ok (.iload 4, 2) := by decide +kernel
theorem dX3_reached_7 : decode cX3_reached 7 = .ok (.bipush 8, 2) := by decide +kernel
theorem dX3_reached_9 : decode cX3_reached 9 = .ok (.if_icmp .ge 81, 3) := by decide +kernel
theorem dX3_reached_12 : decode cX3_reached 12 = .ok (.iconst 0, 1) := by decide +kernel
theorem dX3_reached_13 : decode cX3_reached 13 = .ok (.istore 5, 2) := by decide +kernel
theorem dX3_reached_15 : decode cX3_reached 15 = .ok (.iload 5, 2) := by decide +kernel
theorem dX3_reached_17 : decode cX3_reached 17 = .ok (.aload_n 0, 1) := by decide +kernel
theorem dX3_reached_18 : decode cX3_reached 18 = .ok (.getfield 18, 3) := by decide +kernel
theorem dX3_reached_21 : decode cX3_reached 21 = .ok (.if_icmp .ge 63, 3) := by decide +kernel
theorem dX3_reached_24 : decode cX3_reached 24 = .ok (.iload_n 3, 1) := by decide +kernel
theorem dX3_reached_25 : decode cX3_reached 25 = .ok (.aload_n 0, 1) := by decide +kernel
theorem dX3_reached_26 : decode cX3_reached 26 = .ok (.getfield 11, 3) := by decide +kernel
theorem dX3_reached_29 : decode cX3_reached 29 = .ok (.iload 5, 2) := by decide +kernel
theorem dX3_reached_31 : decode cX3_reached 31 = .ok (.iaload, 1) := by decide +kernel
theorem dX3_reached_32 : decode cX3_reached 32 = .ok (.invokestatic 22, 3) := by decide +kernel
theorem dX3_reached_35 : decode cX3_reached 35 = .ok (.ifCond .eq 43, 3) := by decide +kernel
theorem dX3_reached_38 : decode cX3_reached 38 = .ok (.iload_n 2, 1) := by decide +kernel
theorem dX3_reached_39 : decode cX3_reached 39 = .ok (.aload_n 0, 1) := by decide +kernel
theorem dX3_reached_40 : decode cX3_reached 40 = .ok (.getfield 11, 3) := by decide +kernel
theorem dX3_reached_43 : decode cX3_reached 43 = .ok (.iload 5, 2) := by decide +kernel
theorem dX3_reached_45 : decode cX3_reached 45 = .ok (.iaload, 1) := by decide +kernel
theorem dX3_reached_46 : decode cX3_reached 46 = .ok (.invokestatic 22, 3) := by decide +kernel
theorem dX3_reached_49 : decode cX3_reached 49 = .ok (.ifCond .eq 29, 3) := by decide +kernel
theorem dX3_reached_52 : decode cX3_reached 52 = .ok (.iload_n 2, 1) := by decide +kernel
theorem dX3_reached_53 : decode cX3_reached 53 = .ok (.aload_n 0, 1) := by decide +kernel
theorem dX3_reached_54 : decode cX3_reached 54 = .ok (.getfield 15, 3) := by decide +kernel
theorem dX3_reached_57 : decode cX3_reached 57 = .ok (.iload 5, 2) := by decide +kernel
theorem dX3_reached_59 : decode cX3_reached 59 = .ok (.iaload, 1) := by decide +kernel
theorem dX3_reached_60 : decode cX3_reached 60 = .ok (.invokestatic 22, 3) := by decide +kernel
theorem dX3_reached_63 : decode cX3_reached 63 = .ok (.ifCond .eq 15, 3) := by decide +kernel
theorem dX3_reached_66 : decode cX3_reached 66 = .ok (.iload_n 3, 1) := by decide +kernel
theorem dX3_reached_67 : decode cX3_reached 67 = .ok (.iconst 1, 1) := by decide +kernel
theorem dX3_reached_68 : decode cX3_reached 68 = .ok (.aload_n 0, 1) := by decide +kernel
theorem dX3_reached_69 : decode cX3_reached 69 = .ok (.getfield 15, 3) := by decide +kernel
theorem dX3_reached_72 : decode cX3_reached 72 = .ok (.iload 5, 2) := by decide +kernel
theorem dX3_reached_74 : decode cX3_reached 74 = .ok (.iaload, 1) := by decide +kernel
theorem dX3_reached_75 : decode cX3_reached 75 = .ok (.ishl, 1) := by decide +kernel
theorem dX3_reached_76 : decode cX3_reached 76 = .ok (.ior, 1) := by decide +kernel
theorem dX3_reached_77 : decode cX3_reached 77 = .ok (.istore_n 3, 1) := by decide +kernel
theorem dX3_reached_78 : decode cX3_reached 78 = .ok (.iinc 5 1, 3) := by decide +kernel
theorem dX3_reached_81 : decode cX3_reached 81 = .ok (.goto (-66), 3) := by decide +kernel
theorem dX3_reached_84 : decode cX3_reached 84 = .ok (.iinc 4 1, 3) := by decide +kernel
theorem dX3_reached_87 : decode cX3_reached 87 = .ok (.goto (-82), 3) := by decide +kernel
theorem dX3_reached_90 : decode cX3_reached 90 = .ok (.iload_n 3, 1) := by decide +kernel
theorem dX3_reached_91 : decode cX3_reached 91 = .ok (.ireturn, 1) := by decide +kernel
theorem dX4_init_0 : decode cX4_init 0 = .ok (.aload_n 0, 1) := by decide +kernel
theorem dX4_init_1 : decode cX4_init 1 = .ok (.invokespecial 3, 3) := by decide +kernel
theorem dX4_init_4 : decode cX4_init 4 = .ok (.aload_n 0, 1) := by decide +kernel
theorem dX4_init_5 : decode cX4_init 5 = .ok (.bipush 8, 2) := by decide +kernel
theorem dX4_init_7 : decode cX4_init 7 = .ok (.newarray .int, 2) := by decide +kernel
theorem dX4_init_9 : decode cX4_init 9 = .ok (.putfield 9, 3) := by decide +kernel
theorem dX4_init_12 : decode cX4_init 12 = .ok (.aload_n 0, 1) := by decide +kernel
theorem dX4_init_13 : decode cX4_init 13 = .ok (.new 15, 3) := by decide +kernel
theorem dX4_init_16 : decode cX4_init 16 = .ok (.dup, 1) := by decide +kernel
theorem dX4_init_17 : decode cX4_init 17 = .ok (.invokespecial 17, 3) := by decide +kernel
theorem dX4_init_20 : decode cX4_init 20 = .ok (.putfield 18, 3) := by decide +kernel
theorem dX4_init_23 : decode cX4_init 23 = .ok (.aload_n 0, 1) := by decide +kernel
theorem dX4_init_24 : decode cX4_init 24 = .ok (.sipush 256, 3) := by decide +kernel
theorem dX4_init_27 : decode cX4_init 27 = .ok (.newarray .long, 2) := by decide +kernel
theorem dX4_init_29 : decode cX4_init 29 = .ok (.putfield 22, 3) := by decide +kernel
theorem dX4_init_32 : decode cX4_init 32 = .ok (.aload_n 0, 1) := by decide +kernel
theorem dX4_init_33 : decode cX4_init 33 = .ok (.sipush 256, 3) := by decide +kernel
theorem dX4_init_36 : decode cX4_init 36 = .ok (.newarray .long, 2) := by decide +kernel
theorem dX4_init_38 : decode cX4_init 38 = .ok (.putfield 26, 3) := by decide +kernel
theorem dX4_init_41 : decode cX4_init 41 = .ok (.aload_n 0, 1) := by decide +kernel
theorem dX4_init_42 : decode cX4_init 42 = .ok (.sipush 256, 3) := by decide +kernel
theorem dX4_init_45 : decode cX4_init 45 = .ok (.newarray .long, 2) := by decide +kernel
theorem dX4_init_47 : decode cX4_init 47 = .ok (.putfield 29, 3) := by decide +kernel
theorem dX4_init_50 : decode cX4_init 50 = .ok (.return_, 1) := by decide +kernel
theorem dX4_reckon_0 : decode cX4_reckon 0 = .ok (.aload_n 0, 1) := by decide +kernel
theorem dX4_reckon_1 : decode cX4_reckon 1 = .ok (.aload_n 0, 1) := by decide +kernel
theorem dX4_reckon_2 : decode cX4_reckon 2 = .ok (.getfield 18, 3) := by decide +kernel
theorem dX4_reckon_5 : decode cX4_reckon 5 = .ok (.invokevirtual 32, 3) := by decide +kernel
theorem dX4_reckon_8 : decode cX4_reckon 8 = .ok (.putfield 36, 3) := by decide +kernel
theorem dX4_reckon_11 : decode cX4_reckon 11 = .ok (.aload_n 0, 1) := by decide +kernel
theorem dX4_reckon_12 : decode cX4_reckon 12 = .ok (.getfield 22, 3) := by decide +kernel
theorem dX4_reckon_15 : decode cX4_reckon 15 = .ok (.iconst 0, 1) := by decide +kernel
theorem dX4_reckon_16 : decode cX4_reckon 16 = .ok (.lconst 0, 1) := by decide +kernel
theorem dX4_reckon_17 : decode cX4_reckon 17 = .ok (.lastore, 1) := by decide +kernel
theorem dX4_reckon_18 : decode cX4_reckon 18 = .ok (.iconst 1, 1) := by decide +kernel
theorem dX4_reckon_19 : decode cX4_reckon 19 = .ok (.istore_n 1, 1) := by decide +kernel
theorem dX4_reckon_20 : decode cX4_reckon 20 = .ok (.iload_n 1, 1) := by decide +kernel
theorem dX4_reckon_21 : decode cX4_reckon 21 = .ok (.aload_n 0, 1) := by decide +kernel
theorem dX4_reckon_22 : decode cX4_reckon 22 = .ok (.getfield 36, 3) := by decide +kernel
theorem dX4_reckon_25 : decode cX4_reckon 25 = .ok (.if_icmp .gt 18, 3) := by decide +kernel
theorem dX4_reckon_28 : decode cX4_reckon 28 = .ok (.aload_n 0, 1) := by decide +kernel
theorem dX4_reckon_29 : decode cX4_reckon 29 = .ok (.getfield 22, 3) := by decide +kernel
theorem dX4_reckon_32 : decode cX4_reckon 32 = .ok (.iload_n 1, 1) := by decide +kernel
theorem dX4_reckon_33 : decode cX4_reckon 33 = .ok (.ldc2_w 40, 3) := by decide +kernel
theorem dX4_reckon_36 : decode cX4_reckon 36 = .ok (.lastore, 1) := by decide +kernel
theorem dX4_reckon_37 : decode cX4_reckon 37 = .ok (.iinc 1 1, 3) := by decide +kernel
theorem dX4_reckon_40 : decode cX4_reckon 40 = .ok (.goto (-20), 3) := by decide +kernel
theorem dX4_reckon_43 : decode cX4_reckon 43 = .ok (.iconst 0, 1) := by decide +kernel
theorem dX4_reckon_44 : decode cX4_reckon 44 = .ok (.istore_n 1, 1) := by decide +kernel
theorem dX4_reckon_45 : decode cX4_reckon 45 = .ok (.iload_n 1, 1) := by decide +kernel
theorem dX4_reckon_46 : decode cX4_reckon 46 = .ok (.bipush 8, 2) := by decide +kernel
theorem dX4_reckon_48 : decode cX4_reckon 48 = .ok (.if_icmp .ge 19, 3) := by decide +kernel
theorem dX4_reckon_51 : decode cX4_reckon 51 = .ok (.aload_n 0, 1) := by decide +kernel
theorem dX4_reckon_52 : decode cX4_reckon 52 = .ok (.iload_n 1, 1) := by decide +kernel
theorem dX4_reckon_53 : decode cX4_reckon 53 = .ok (.invokevirtual 42, 3) := by decide +kernel
theorem dX4_reckon_56 : decode cX4_reckon 56 = .ok (.aload_n 0, 1) := by decide +kernel
theorem dX4_reckon_57 : decode cX4_reckon 57 = .ok (.iload_n 1, 1) := by decide +kernel
theorem dX4_reckon_58 : decode cX4_reckon 58 = .ok (.invokevirtual 46, 3) := by decide +kernel
theorem dX4_reckon_61 : decode cX4_reckon 61 = .ok (.iinc 1 1, 3) := by decide +kernel
theorem dX4_reckon_64 : decode cX4_reckon 64 = .ok (.goto (-19), 3) := by decide +kernel
theorem dX4_reckon_67 : decode cX4_reckon 67 = .ok (.aload_n 0, 1) := by decide +kernel
theorem dX4_reckon_68 : decode cX4_reckon 68 = .ok (.invokevirtual 49, 3) := by decide +kernel
theorem dX4_reckon_71 : decode cX4_reckon 71 = .ok (.return_, 1) := by decide +kernel
theorem dX4_joinHour_0 : decode cX4_joinHour 0 = .ok (.aload_n 0, 1) := by decide +kernel
theorem dX4_joinHour_1 : decode cX4_joinHour 1 = .ok (.getfield 22, 3) := by decide +kernel
theorem dX4_joinHour_4 : decode cX4_joinHour 4 = .ok (.iconst 0, 1) := by decide +kernel
theorem dX4_joinHour_5 : decode cX4_joinHour 5 = .ok (.aload_n 0, 1) := by decide +kernel
theorem dX4_joinHour_6 : decode cX4_joinHour 6 = .ok (.getfield 26, 3) := by decide +kernel
theorem dX4_joinHour_9 : decode cX4_joinHour 9 = .ok (.iconst 0, 1) := by decide +kernel
theorem dX4_joinHour_10 : decode cX4_joinHour 10 = .ok (.sipush 256, 3) := by decide +kernel
theorem dX4_joinHour_13 : decode cX4_joinHour 13 = .ok (.invokestatic 52, 3) := by decide +kernel
theorem dX4_joinHour_16 : decode cX4_joinHour 16 = .ok (.aload_n 0, 1) := by decide +kernel
theorem dX4_joinHour_17 : decode cX4_joinHour 17 = .ok (.iload_n 1, 1) := by decide +kernel
theorem dX4_joinHour_18 : decode cX4_joinHour 18 = .ok (.invokevirtual 58, 3) := by decide +kernel
theorem dX4_joinHour_21 : decode cX4_joinHour 21 = .ok (.istore_n 2, 1) := by decide +kernel
theorem dX4_joinHour_22 : decode cX4_joinHour 22 = .ok (.aload_n 0, 1) := by decide +kernel
theorem dX4_joinHour_23 : decode cX4_joinHour 23 = .ok (.getfield 18, 3) := by decide +kernel
theorem dX4_joinHour_26 : decode cX4_joinHour 26 = .ok (.getfield 62, 3) := by decide +kernel
theorem dX4_joinHour_29 : decode cX4_joinHour 29 = .ok (.getfield 66, 3) := by decide +kernel
theorem dX4_joinHour_32 : decode cX4_joinHour 32 = .ok (.iconst 0, 1) := by decide +kernel
theorem dX4_joinHour_33 : decode cX4_joinHour 33 = .ok (.iaload, 1) := by decide +kernel
theorem dX4_joinHour_34 : decode cX4_joinHour 34 = .ok (.i2l, 1) := by decide +kernel
theorem dX4_joinHour_35 : decode cX4_joinHour 35 = .ok (.ldc2_w 71, 3) := by decide +kernel
theorem dX4_joinHour_38 : decode cX4_joinHour 38 = .ok (.lmul, 1) := by decide +kernel
theorem dX4_joinHour_39 : decode cX4_joinHour 39 = .ok (.lstore_n 3, 1) := by decide +kernel
theorem dX4_joinHour_40 : decode cX4_joinHour 40 = .ok (.iconst 1, 1) := by decide +kernel
theorem dX4_joinHour_41 : decode cX4_joinHour 41 = .ok (.istore 5, 2) := by decide +kernel
theorem dX4_joinHour_43 : decode cX4_joinHour 43 = .ok (.iload 5, 2) := by decide +kernel
theorem dX4_joinHour_45 : decode cX4_joinHour 45 = .ok (.aload_n 0, 1) := by decide +kernel
theorem dX4_joinHour_46 : decode cX4_joinHour 46 = .ok (.getfield 36, 3) := by decide +kernel
theorem dX4_joinHour_49 : decode cX4_joinHour 49 = .ok (.if_icmp .gt 49, 3) := by decide +kernel
theorem dX4_joinHour_52 : decode cX4_joinHour 52 = .ok (.aload_n 0, 1) := by decide +kernel
theorem dX4_joinHour_53 : decode cX4_joinHour 53 = .ok (.getfield 29, 3) := by decide +kernel
theorem dX4_joinHour_56 : decode cX4_joinHour 56 = .ok (.iload 5, 2) := by decide +kernel
theorem dX4_joinHour_58 : decode cX4_joinHour 58 = .ok (.laload, 1) := by decide +kernel
theorem dX4_joinHour_59 : decode cX4_joinHour 59 = .ok (.ldc2_w 40, 3) := by decide +kernel
theorem dX4_joinHour_62 : decode cX4_joinHour 62 = .ok (.lcmp, 1) := by decide +kernel
theorem dX4_joinHour_63 : decode cX4_joinHour 63 = .ok (.ifCond .ge 29, 3) := by decide +kernel
theorem dX4_joinHour_66 : decode cX4_joinHour 66 = .ok (.aload_n 0, 1) := by decide +kernel
theorem dX4_joinHour_67 : decode cX4_joinHour 67 = .ok (.iload 5, 2) := by decide +kernel
theorem dX4_joinHour_69 : decode cX4_joinHour 69 = .ok (.aload_n 0, 1) := by decide +kernel
theorem dX4_joinHour_70 : decode cX4_joinHour 70 = .ok (.getfield 29, 3) := by decide +kernel
theorem dX4_joinHour_73 : decode cX4_joinHour 73 = .ok (.iload 5, 2) := by decide +kernel
theorem dX4_joinHour_75 : decode cX4_joinHour 75 = .ok (.laload, 1) := by decide +kernel
theorem dX4_joinHour_76 : decode cX4_joinHour 76 = .ok (.iload 5, 2) := by decide +kernel
theorem dX4_joinHour_78 : decode cX4_joinHour 78 = .ok (.iload_n 2, 1) := by decide +kernel
theorem dX4_joinHour_79 : decode cX4_joinHour 79 = .ok (.iand, 1) := by decide +kernel
theorem dX4_joinHour_80 : decode cX4_joinHour 80 = .ok (.ifCond .eq 7, 3) := by decide +kernel
theorem dX4_joinHour_83 : decode cX4_joinHour 83 = .ok (.lload_n 3, 1) := by decide +kernel
theorem dX4_joinHour_84 : decode cX4_joinHour 84 = .ok (.goto 4, 3) := by decide +kernel
theorem dX4_joinHour_87 : decode cX4_joinHour 87 = .ok (.lconst 0, 1) := by decide +kernel
theorem dX4_joinHour_88 : decode cX4_joinHour 88 = .ok (.ladd, 1) := by decide +kernel
theorem dX4_joinHour_89 : decode cX4_joinHour 89 = .ok (.invokevirtual 73, 3) := by decide +kernel
theorem dX4_joinHour_92 : decode cX4_joinHour 92 = .ok (.iinc 5 1, 3) := by decide +kernel
theorem dX4_joinHour_95 : decode cX4_joinHour 95 = .ok (.goto (-52), 3) := by decide +kernel
theorem dX4_joinHour_98 : decode cX4_joinHour 98 = .ok (.return_, 1) := by decide +kernel
theorem dX4_turnedBy_0 : decode cX4_turnedBy 0 = .ok (.iconst 0, 1) := by decide +kernel
theorem dX4_turnedBy_1 : decode cX4_turnedBy 1 = .ok (.istore_n 2, 1) := by decide +kernel
theorem dX4_turnedBy_2 : decode cX4_turnedBy 2 = .ok (.iconst 0, 1) := by decide +kernel
theorem dX4_turnedBy_3 : decode cX4_turnedBy 3 = .ok (.istore_n 3, 1) := by decide +kernel
theorem dX4_turnedBy_4 : decode cX4_turnedBy 4 = .ok (.iload_n 3, 1) := by decide +kernel
theorem dX4_turnedBy_5 : decode cX4_turnedBy 5 = .ok (.aload_n 0, 1) := by decide +kernel
theorem dX4_turnedBy_6 : decode cX4_turnedBy 6 = .ok (.getfield 18, 3) := by decide +kernel
theorem dX4_turnedBy_9 : decode cX4_turnedBy 9 = .ok (.getfield 77, 3) := by decide +kernel
theorem dX4_turnedBy_12 : decode cX4_turnedBy 12 = .ok (.getfield 81, 3) := by decide +kernel
theorem dX4_turnedBy_15 : decode cX4_turnedBy 15 = .ok (.if_icmp .ge 27, 3) := by decide +kernel
theorem dX4_turnedBy_18 : decode cX4_turnedBy 18 = .ok (.aload_n 0, 1) := by decide +kernel
theorem dX4_turnedBy_19 : decode cX4_turnedBy 19 = .ok (.getfield 18, 3) := by decide +kernel
theorem dX4_turnedBy_22 : decode cX4_turnedBy 22 = .ok (.iload_n 3, 1) := by decide +kernel
theorem dX4_turnedBy_23 : decode cX4_turnedBy 23 = .ok (.iload_n 1, 1) := by decide +kernel
theorem dX4_turnedBy_24 : decode cX4_turnedBy 24 = .ok (.invokevirtual 86, 3) := by decide +kernel
theorem dX4_turnedBy_27 : decode cX4_turnedBy 27 = .ok (.ifCond .eq 9, 3) := by decide +kernel
theorem dX4_turnedBy_30 : decode cX4_turnedBy 30 = .ok (.iload_n 2, 1) := by decide +kernel
theorem dX4_turnedBy_31 : decode cX4_turnedBy 31 = .ok (.iconst 1, 1) := by decide +kernel
theorem dX4_turnedBy_32 : decode cX4_turnedBy 32 = .ok (.iload_n 3, 1) := by decide +kernel
theorem dX4_turnedBy_33 : decode cX4_turnedBy 33 = .ok (.ishl, 1) := by decide +kernel
theorem dX4_turnedBy_34 : decode cX4_turnedBy 34 = .ok (.ior, 1) := by decide +kernel
theorem dX4_turnedBy_35 : decode cX4_turnedBy 35 = .ok (.istore_n 2, 1) := by decide +kernel
theorem dX4_turnedBy_36 : decode cX4_turnedBy 36 = .ok (.iinc 3 1, 3) := by decide +kernel
theorem dX4_turnedBy_39 : decode cX4_turnedBy 39 = .ok (.goto (-35), 3) := by decide +kernel
theorem dX4_turnedBy_42 : decode cX4_turnedBy 42 = .ok (.iload_n 2, 1) := by decide +kernel
theorem dX4_turnedBy_43 : decode cX4_turnedBy 43 = .ok (.ireturn, 1) := by decide +kernel
theorem dX4_reckonTogether_0 : decode cX4_reckonTogether 0 = .ok (.aload_n 0, 1) := by decide +kernel
theorem dX4_reckonTogether_1 : decode cX4_reckonTogether 1 = .ok (.getfield 29, 3) := by decide +kernel
theorem dX4_reckonTogether_4 : decode cX4_reckonTogether 4 = .ok (.iconst 0, 1) := by decide +kernel
theorem dX4_reckonTogether_5 : decode cX4_reckonTogether 5 = .ok (.lconst 0, 1) := by decide +kernel
theorem dX4_reckonTogether_6 : decode cX4_reckonTogether 6 = .ok (.lastore, 1) := by decide +kernel
theorem dX4_reckonTogether_7 : decode cX4_reckonTogether 7 = .ok (.iconst 0, 1) := by decide +kernel
theorem dX4_reckonTogether_8 : decode cX4_reckonTogether 8 = .ok (.istore_n 2, 1) := by decide +kernel
theorem dX4_reckonTogether_9 : decode cX4_reckonTogether 9 = .ok (.iload_n 2, 1) := by decide +kernel
theorem dX4_reckonTogether_10 : decode cX4_reckonTogether 10 = .ok (.aload_n 0, 1) := by decide +kernel
theorem dX4_reckonTogether_11 : decode cX4_reckonTogether 11 = .ok (.getfield 18, 3) := by decide +kernel
theorem dX4_reckonTogether_14 : decode cX4_reckonTogether 14 = .ok (.getfield 77, 3) := by decide +kernel
theorem dX4_reckonTogether_17 : decode cX4_reckonTogether 17 = .ok (.getfield 81, 3) := by decide +kernel
theorem dX4_reckonTogether_20 : decode cX4_reckonTogether 20 = .ok (.if_icmp .ge 147, 3) := by decide +kernel
theorem dX4_reckonTogether_23 : decode cX4_reckonTogether 23 = .ok (.aload_n 0, 1) := by decide +kernel
theorem dX4_reckonTogether_24 : decode cX4_reckonTogether 24 = .ok (.getfield 18, 3) := by decide +kernel
theorem dX4_reckonTogether_27 : decode cX4_reckonTogether 27 = .ok (.iload_n 2, 1) := by decide +kernel
theorem dX4_reckonTogether_28 : decode cX4_reckonTogether 28 = .ok (.iload_n 1, 1) := by decide +kernel
theorem dX4_reckonTogether_29 : decode cX4_reckonTogether 29 = .ok (.invokevirtual 90, 3) := by decide +kernel
theorem dX4_reckonTogether_32 : decode cX4_reckonTogether 32 = .ok (.istore_n 3, 1) := by decide +kernel
theorem dX4_reckonTogether_33 : decode cX4_reckonTogether 33 = .ok (.iload_n 3, 1) := by decide +kernel
theorem dX4_reckonTogether_34 : decode cX4_reckonTogether 34 = .ok (.ifCond .eq 12, 3) := by decide +kernel
theorem dX4_reckonTogether_37 : decode cX4_reckonTogether 37 = .ok (.aload_n 0, 1) := by decide +kernel
theorem dX4_reckonTogether_38 : decode cX4_reckonTogether 38 = .ok (.iload_n 2, 1) := by decide +kernel
theorem dX4_reckonTogether_39 : decode cX4_reckonTogether 39 = .ok (.iload_n 1, 1) := by decide +kernel
theorem dX4_reckonTogether_40 : decode cX4_reckonTogether 40 = .ok (.invokevirtual 93, 3) := by decide +kernel
theorem dX4_reckonTogether_43 : decode cX4_reckonTogether 43 = .ok (.goto 4, 3) := by decide +kernel
theorem dX4_reckonTogether_46 : decode cX4_reckonTogether 46 = .ok (.iconst 0, 1) := by decide +kernel
theorem dX4_reckonTogether_47 : decode cX4_reckonTogether 47 = .ok (.istore 4, 2) := by decide +kernel
theorem dX4_reckonTogether_49 : decode cX4_reckonTogether 49 = .ok (.aload_n 0, 1) := by decide +kernel
theorem dX4_reckonTogether_50 : decode cX4_reckonTogether 50 = .ok (.getfield 18, 3) := by decide +kernel
theorem dX4_reckonTogether_53 : decode cX4_reckonTogether 53 = .ok (.iload_n 2, 1) := by decide +kernel
theorem dX4_reckonTogether_54 : decode cX4_reckonTogether 54 = .ok (.iload_n 1, 1) := by decide +kernel
theorem dX4_reckonTogether_55 : decode cX4_reckonTogether 55 = .ok (.invokevirtual 97, 3) := by decide +kernel
theorem dX4_reckonTogether_58 : decode cX4_reckonTogether 58 = .ok (.i2l, 1) := by decide +kernel
theorem dX4_reckonTogether_59 : decode cX4_reckonTogether 59 = .ok (.ldc2_w 71, 3) := by decide +kernel
theorem dX4_reckonTogether_62 : decode cX4_reckonTogether 62 = .ok (.lmul, 1) := by decide +kernel
theorem dX4_reckonTogether_63 : decode cX4_reckonTogether 63 = .ok (.iload_n 1, 1) := by decide +kernel
theorem dX4_reckonTogether_64 : decode cX4_reckonTogether 64 = .ok (.iconst 1, 1) := by decide +kernel
theorem dX4_reckonTogether_65 : decode cX4_reckonTogether 65 = .ok (.iadd, 1) := by decide +kernel
theorem dX4_reckonTogether_66 : decode cX4_reckonTogether 66 = .ok (.i2l, 1) := by decide +kernel
theorem dX4_reckonTogether_67 : decode cX4_reckonTogether 67 = .ok (.getstatic 100, 3) := by decide +kernel
theorem dX4_reckonTogether_70 : decode cX4_reckonTogether 70 = .ok (.iload_n 2, 1) := by decide +kernel
theorem dX4_reckonTogether_71 : decode cX4_reckonTogether 71 = .ok (.laload, 1) := by decide +kernel
theorem dX4_reckonTogether_72 : decode cX4_reckonTogether 72 = .ok (.lmul, 1) := by decide +kernel
theorem dX4_reckonTogether_73 : decode cX4_reckonTogether 73 = .ok (.ladd, 1) := by decide +kernel
theorem dX4_reckonTogether_74 : decode cX4_reckonTogether 74 = .ok (.lstore 5, 2) := by decide +kernel
theorem dX4_reckonTogether_76 : decode cX4_reckonTogether 76 = .ok (.iconst 1, 1) := by decide +kernel
theorem dX4_reckonTogether_77 : decode cX4_reckonTogether 77 = .ok (.iload_n 2, 1) := by decide +kernel
theorem dX4_reckonTogether_78 : decode cX4_reckonTogether 78 = .ok (.ishl, 1) := by decide +kernel
theorem dX4_reckonTogether_79 : decode cX4_reckonTogether 79 = .ok (.istore 7, 2) := by decide +kernel
theorem dX4_reckonTogether_81 : decode cX4_reckonTogether 81 = .ok (.iconst 0, 1) := by decide +kernel
theorem dX4_reckonTogether_82 : decode cX4_reckonTogether 82 = .ok (.istore 8, 2) := by decide +kernel
theorem dX4_reckonTogether_84 : decode cX4_reckonTogether 84 = .ok (.iload 8, 2) := by decide +kernel
theorem dX4_reckonTogether_86 : decode cX4_reckonTogether 86 = .ok (.iload 7, 2) := by decide +kernel
theorem dX4_reckonTogether_88 : decode cX4_reckonTogether 88 = .ok (.if_icmp .ge 73, 3) := by decide +kernel
theorem dX4_reckonTogether_91 : decode cX4_reckonTogether 91 = .ok (.iload_n 3, 1) := by decide +kernel
theorem dX4_reckonTogether_92 : decode cX4_reckonTogether 92 = .ok (.ifCond .eq 29, 3) := by decide +kernel
theorem dX4_reckonTogether_95 : decode cX4_reckonTogether 95 = .ok (.iload 8, 2) := by decide +kernel
theorem dX4_reckonTogether_97 : decode cX4_reckonTogether 97 = .ok (.iload 4, 2) := by decide +kernel
theorem dX4_reckonTogether_99 : decode cX4_reckonTogether 99 = .ok (.iand, 1) := by decide +kernel
theorem dX4_reckonTogether_100 : decode cX4_reckonTogether 100 = .ok (.ifCond .ne 21, 3) := by decide +kernel
theorem dX4_reckonTogether_103 : decode cX4_reckonTogether 103 = .ok (.aload_n 0, 1) := by decide +kernel
theorem dX4_reckonTogether_104 : decode cX4_reckonTogether 104 = .ok (.getfield 29, 3) := by decide +kernel
theorem dX4_reckonTogether_107 : decode cX4_reckonTogether 107 = .ok (.iload 8, 2) := by decide +kernel
theorem dX4_reckonTogether_109 : decode cX4_reckonTogether 109 = .ok (.laload, 1) := by decide +kernel
theorem dX4_reckonTogether_110 : decode cX4_reckonTogether 110 = .ok (.ldc2_w 40, 3) := by decide +kernel
theorem dX4_reckonTogether_113 : decode cX4_reckonTogether 113 = .ok (.lcmp, 1) := by decide +kernel
theorem dX4_reckonTogether_114 : decode cX4_reckonTogether 114 = .ok (.ifCond .ge 7, 3) := by decide +kernel
theorem dX4_reckonTogether_117 : decode cX4_reckonTogether 117 = .ok (.iconst 1, 1) := by decide +kernel
theorem dX4_reckonTogether_118 : decode cX4_reckonTogether 118 = .ok (.goto 4, 3) := by decide +kernel
theorem dX4_reckonTogether_121 : decode cX4_reckonTogether 121 = .ok (.iconst 0, 1) := by decide +kernel
theorem dX4_reckonTogether_122 : decode cX4_reckonTogether 122 = .ok (.istore 9, 2) := by decide +kernel
theorem dX4_reckonTogether_124 : decode cX4_reckonTogether 124 = .ok (.aload_n 0, 1) := by decide +kernel
theorem dX4_reckonTogether_125 : decode cX4_reckonTogether 125 = .ok (.getfield 29, 3) := by decide +kernel
theorem dX4_reckonTogether_128 : decode cX4_reckonTogether 128 = .ok (.iload 7, 2) := by decide +kernel
theorem dX4_reckonTogether_130 : decode cX4_reckonTogether 130 = .ok (.iload 8, 2) := by decide +kernel
theorem dX4_reckonTogether_132 : decode cX4_reckonTogether 132 = .ok (.iadd, 1) := by decide +kernel
theorem dX4_reckonTogether_133 : decode cX4_reckonTogether 133 = .ok (.iload 9, 2) := by decide +kernel
theorem dX4_reckonTogether_135 : decode cX4_reckonTogether 135 = .ok (.ifCond .eq 16, 3) := by decide +kernel
theorem dX4_reckonTogether_138 : decode cX4_reckonTogether 138 = .ok (.aload_n 0, 1) := by decide +kernel
theorem dX4_reckonTogether_139 : decode cX4_reckonTogether 139 = .ok (.getfield 29, 3) := by decide +kernel
theorem dX4_reckonTogether_142 : decode cX4_reckonTogether 142 = .ok (.iload 8, 2) := by decide +kernel
theorem dX4_reckonTogether_144 : decode cX4_reckonTogether 144 = .ok (.laload, 1) := by decide +kernel
theorem dX4_reckonTogether_145 : decode cX4_reckonTogether 145 = .ok (.lload 5, 2) := by decide +kernel
theorem dX4_reckonTogether_147 : decode cX4_reckonTogether 147 = .ok (.ladd, 1) := by decide +kernel
theorem dX4_reckonTogether_148 : decode cX4_reckonTogether 148 = .ok (.goto 6, 3) := by decide +kernel
theorem dX4_reckonTogether_151 : decode cX4_reckonTogether 151 = .ok (.ldc2_w 40, 3) := by decide +kernel
theorem dX4_reckonTogether_154 : decode cX4_reckonTogether 154 = .ok (.lastore, 1) := by decide +kernel
theorem dX4_reckonTogether_155 : decode cX4_reckonTogether 155 = .ok (.iinc 8 1, 3) := by decide +kernel
theorem dX4_reckonTogether_158 : decode cX4_reckonTogether 158 = .ok (.goto (-74), 3) := by decide +kernel
theorem dX4_reckonTogether_161 : decode cX4_reckonTogether 161 = .ok (.iinc 2 1, 3) := by decide +kernel
theorem dX4_reckonTogether_164 : decode cX4_reckonTogether 164 = .ok (.goto (-155), 3) := by decide +kernel
theorem dX4_reckonTogether_167 : decode cX4_reckonTogether 167 = .ok (.return_, 1) := by decide +kernel
theorem dX4_apartFrom_0 : decode cX4_apartFrom 0 = .ok (.iconst 0, 1) := by decide +kernel
theorem dX4_apartFrom_1 : decode cX4_apartFrom 1 = .ok (.istore_n 3, 1) := by decide +kernel
theorem dX4_apartFrom_2 : decode cX4_apartFrom 2 = .ok (.iconst 0, 1) := by decide +kernel
theorem dX4_apartFrom_3 : decode cX4_apartFrom 3 = .ok (.istore 4, 2) := by decide +kernel
theorem dX4_apartFrom_5 : decode cX4_apartFrom 5 = .ok (.iload 4, 2) := by decide +kernel
theorem dX4_apartFrom_7 : decode cX4_apartFrom 7 = .ok (.iload_n 1, 1) := by decide +kernel
theorem dX4_apartFrom_8 : decode cX4_apartFrom 8 = .ok (.if_icmp .ge 43, 3) := by decide +kernel
theorem dX4_apartFrom_11 : decode cX4_apartFrom 11 = .ok (.aload_n 0, 1) := by decide +kernel
theorem dX4_apartFrom_12 : decode cX4_apartFrom 12 = .ok (.getfield 18, 3) := by decide +kernel
theorem dX4_apartFrom_15 : decode cX4_apartFrom 15 = .ok (.iload 4, 2) := by decide +kernel
theorem dX4_apartFrom_17 : decode cX4_apartFrom 17 = .ok (.iload_n 2, 1) := by decide +kernel
theorem dX4_apartFrom_18 : decode cX4_apartFrom 18 = .ok (.invokevirtual 90, 3) := by decide +kernel
theorem dX4_apartFrom_21 : decode cX4_apartFrom 21 = .ok (.ifCond .eq 24, 3) := by decide +kernel
theorem dX4_apartFrom_24 : decode cX4_apartFrom 24 = .ok (.aload_n 0, 1) := by decide +kernel
theorem dX4_apartFrom_25 : decode cX4_apartFrom 25 = .ok (.getfield 18, 3) := by decide +kernel
theorem dX4_apartFrom_28 : decode cX4_apartFrom 28 = .ok (.iload_n 1, 1) := by decide +kernel
theorem dX4_apartFrom_29 : decode cX4_apartFrom 29 = .ok (.iload 4, 2) := by decide +kernel
theorem dX4_apartFrom_31 : decode cX4_apartFrom 31 = .ok (.iload_n 2, 1) := by decide +kernel
theorem dX4_apartFrom_32 : decode cX4_apartFrom 32 = .ok (.invokevirtual 103, 3) := by decide +kernel
theorem dX4_apartFrom_35 : decode cX4_apartFrom 35 = .ok (.ifCond .eq 10, 3) := by decide +kernel
theorem dX4_apartFrom_38 : decode cX4_apartFrom 38 = .ok (.iload_n 3, 1) := by decide +kernel
theorem dX4_apartFrom_39 : decode cX4_apartFrom 39 = .ok (.iconst 1, 1) := by decide +kernel
theorem dX4_apartFrom_40 : decode cX4_apartFrom 40 = .ok (.iload 4, 2) := by decide +kernel
theorem dX4_apartFrom_42 : decode cX4_apartFrom 42 = .ok (.ishl, 1) := by decide +kernel
theorem dX4_apartFrom_43 : decode cX4_apartFrom 43 = .ok (.ior, 1) := by decide +kernel
theorem dX4_apartFrom_44 : decode cX4_apartFrom 44 = .ok (.istore_n 3, 1) := by decide +kernel
theorem dX4_apartFrom_45 : decode cX4_apartFrom 45 = .ok (.iinc 4 1, 3) := by decide +kernel
theorem dX4_apartFrom_48 : decode cX4_apartFrom 48 = .ok (.goto (-43), 3) := by decide +kernel
theorem dX4_apartFrom_51 : decode cX4_apartFrom 51 = .ok (.iload_n 3, 1) := by decide +kernel
theorem dX4_apartFrom_52 : decode cX4_apartFrom 52 = .ok (.ireturn, 1) := by decide +kernel
theorem dX4_joinWithRest_0 : decode cX4_joinWithRest 0 = .ok (.aload_n 0, 1) := by decide +kernel
theorem dX4_joinWithRest_1 : decode cX4_joinWithRest 1 = .ok (.getfield 36, 3) := by decide +kernel
theorem dX4_joinWithRest_4 : decode cX4_joinWithRest 4 = .ok (.iload_n 1, 1) := by decide +kernel
theorem dX4_joinWithRest_5 : decode cX4_joinWithRest 5 = .ok (.iconst (-1), 1) := by decide +kernel
theorem dX4_joinWithRest_6 : decode cX4_joinWithRest 6 = .ok (.ixor, 1) := by decide +kernel
theorem dX4_joinWithRest_7 : decode cX4_joinWithRest 7 = .ok (.iand, 1) := by decide +kernel
theorem dX4_joinWithRest_8 : decode cX4_joinWithRest 8 = .ok (.istore 4, 2) := by decide +kernel
theorem dX4_joinWithRest_10 : decode cX4_joinWithRest 10 = .ok (.iload 4, 2) := by decide +kernel
theorem dX4_joinWithRest_12 : decode cX4_joinWithRest 12 = .ok (.istore 5, 2) := by decide +kernel
theorem dX4_joinWithRest_14 : decode cX4_joinWithRest 14 = .ok (.sipush 256, 3) := by decide +kernel
theorem dX4_joinWithRest_17 : decode cX4_joinWithRest 17 = .ok (.istore 6, 2) := by decide +kernel
theorem dX4_joinWithRest_19 : decode cX4_joinWithRest 19 = .ok (.iload 6, 2) := by decide +kernel
theorem dX4_joinWithRest_21 : decode cX4_joinWithRest 21 = .ok (.ifCond .le 78, 3) := by decide +kernel
theorem dX4_joinWithRest_24 : decode cX4_joinWithRest 24 = .ok (.aload_n 0, 1) := by decide +kernel
theorem dX4_joinWithRest_25 : decode cX4_joinWithRest 25 = .ok (.getfield 26, 3) := by decide +kernel
theorem dX4_joinWithRest_28 : decode cX4_joinWithRest 28 = .ok (.iload 5, 2) := by decide +kernel
theorem dX4_joinWithRest_30 : decode cX4_joinWithRest 30 = .ok (.laload, 1) := by decide +kernel
theorem dX4_joinWithRest_31 : decode cX4_joinWithRest 31 = .ok (.ldc2_w 40, 3) := by decide +kernel
theorem dX4_joinWithRest_34 : decode cX4_joinWithRest 34 = .ok (.lcmp, 1) := by decide +kernel
theorem dX4_joinWithRest_35 : decode cX4_joinWithRest 35 = .ok (.ifCond .ge 43, 3) := by decide +kernel
theorem dX4_joinWithRest_38 : decode cX4_joinWithRest 38 = .ok (.lload_n 2, 1) := by decide +kernel
theorem dX4_joinWithRest_39 : decode cX4_joinWithRest 39 = .ok (.aload_n 0, 1) := by decide +kernel
theorem dX4_joinWithRest_40 : decode cX4_joinWithRest 40 = .ok (.getfield 26, 3) := by decide +kernel
theorem dX4_joinWithRest_43 : decode cX4_joinWithRest 43 = .ok (.iload 5, 2) := by decide +kernel
theorem dX4_joinWithRest_45 : decode cX4_joinWithRest 45 = .ok (.laload, 1) := by decide +kernel
theorem dX4_joinWithRest_46 : decode cX4_joinWithRest 46 = .ok (.ladd, 1) := by decide +kernel
theorem dX4_joinWithRest_47 : decode cX4_joinWithRest 47 = .ok (.aload_n 0, 1) := by decide +kernel
theorem dX4_joinWithRest_48 : decode cX4_joinWithRest 48 = .ok (.getfield 22, 3) := by decide +kernel
theorem dX4_joinWithRest_51 : decode cX4_joinWithRest 51 = .ok (.iload_n 1, 1) := by decide +kernel
theorem dX4_joinWithRest_52 : decode cX4_joinWithRest 52 = .ok (.iload 5, 2) := by decide +kernel
theorem dX4_joinWithRest_54 : decode cX4_joinWithRest 54 = .ok (.ior, 1) := by decide +kernel
theorem dX4_joinWithRest_55 : decode cX4_joinWithRest 55 = .ok (.laload, 1) := by decide +kernel
theorem dX4_joinWithRest_56 : decode cX4_joinWithRest 56 = .ok (.lcmp, 1) := by decide +kernel
theorem dX4_joinWithRest_57 : decode cX4_joinWithRest 57 = .ok (.ifCond .ge 21, 3) := by decide +kernel
theorem dX4_joinWithRest_60 : decode cX4_joinWithRest 60 = .ok (.aload_n 0, 1) := by decide +kernel
theorem dX4_joinWithRest_61 : decode cX4_joinWithRest 61 = .ok (.getfield 22, 3) := by decide +kernel
theorem dX4_joinWithRest_64 : decode cX4_joinWithRest 64 = .ok (.iload_n 1, 1) := by decide +kernel
theorem dX4_joinWithRest_65 : decode cX4_joinWithRest 65 = .ok (.iload 5, 2) := by decide +kernel
theorem dX4_joinWithRest_67 : decode cX4_joinWithRest 67 = .ok (.ior, 1) := by decide +kernel
theorem dX4_joinWithRest_68 : decode cX4_joinWithRest 68 = .ok (.lload_n 2, 1) := by decide +kernel
theorem dX4_joinWithRest_69 : decode cX4_joinWithRest 69 = .ok (.aload_n 0, 1) := by decide +kernel
theorem dX4_joinWithRest_70 : decode cX4_joinWithRest 70 = .ok (.getfield 26, 3) := by decide +kernel
theorem dX4_joinWithRest_73 : decode cX4_joinWithRest 73 = .ok (.iload 5, 2) := by decide +kernel
theorem dX4_joinWithRest_75 : decode cX4_joinWithRest 75 = .ok (.laload, 1) := by decide +kernel
theorem dX4_joinWithRest_76 : decode cX4_joinWithRest 76 = .ok (.ladd, 1) := by decide +kernel
theorem dX4_joinWithRest_77 : decode cX4_joinWithRest 77 = .ok (.lastore, 1) := by decide +kernel
theorem dX4_joinWithRest_78 : decode cX4_joinWithRest 78 = .ok (.iload 5, 2) := by decide +kernel
theorem dX4_joinWithRest_80 : decode cX4_joinWithRest 80 = .ok (.ifCond .ne 4, 3) := by decide +kernel
theorem dX4_joinWithRest_83 : decode cX4_joinWithRest 83 = .ok (.return_, 1) := by decide +kernel
theorem dX4_joinWithRest_84 : decode cX4_joinWithRest 84 = .ok (.iload 5, 2) := by decide +kernel
theorem dX4_joinWithRest_86 : decode cX4_joinWithRest 86 = .ok (.iconst 1, 1) := by decide +kernel
theorem dX4_joinWithRest_87 : decode cX4_joinWithRest 87 = .ok (.isub, 1) := by decide +kernel
theorem dX4_joinWithRest_88 : decode cX4_joinWithRest 88 = .ok (.iload 4, 2) := by decide +kernel
theorem dX4_joinWithRest_90 : decode cX4_joinWithRest 90 = .ok (.iand, 1) := by decide +kernel
theorem dX4_joinWithRest_91 : decode cX4_joinWithRest 91 = .ok (.istore 5, 2) := by decide +kernel
theorem dX4_joinWithRest_93 : decode cX4_joinWithRest 93 = .ok (.iinc 6 (-1), 3) := by decide +kernel
theorem dX4_joinWithRest_96 : decode cX4_joinWithRest 96 = .ok (.goto (-77), 3) := by decide +kernel
theorem dX4_joinWithRest_99 : decode cX4_joinWithRest 99 = .ok (.return_, 1) := by decide +kernel
theorem dX4_choose_0 : decode cX4_choose 0 = .ok (.aload_n 0, 1) := by decide +kernel
theorem dX4_choose_1 : decode cX4_choose 1 = .ok (.getfield 18, 3) := by decide +kernel
theorem dX4_choose_4 : decode cX4_choose 4 = .ok (.getfield 62, 3) := by decide +kernel
theorem dX4_choose_7 : decode cX4_choose 7 = .ok (.getfield 66, 3) := by decide +kernel
theorem dX4_choose_10 : decode cX4_choose 10 = .ok (.iconst 2, 1) := by decide +kernel
theorem dX4_choose_11 : decode cX4_choose 11 = .ok (.iaload, 1) := by decide +kernel
theorem dX4_choose_12 : decode cX4_choose 12 = .ok (.iconst 1, 1) := by decide +kernel
theorem dX4_choose_13 : decode cX4_choose 13 = .ok (.iadd, 1) := by decide +kernel
theorem dX4_choose_14 : decode cX4_choose 14 = .ok (.i2l, 1) := by decide +kernel
theorem dX4_choose_15 : decode cX4_choose 15 = .ok (.ldc2_w 71, 3) := by decide +kernel
theorem dX4_choose_18 : decode cX4_choose 18 = .ok (.lmul, 1) := by decide +kernel
theorem dX4_choose_19 : decode cX4_choose 19 = .ok (.lstore_n 1, 1) := by decide +kernel
theorem dX4_choose_20 : decode cX4_choose 20 = .ok (.iconst 0, 1) := by decide +kernel
theorem dX4_choose_21 : decode cX4_choose 21 = .ok (.istore_n 3, 1) := by decide +kernel
theorem dX4_choose_22 : decode cX4_choose 22 = .ok (.aload_n 0, 1) := by decide +kernel
theorem dX4_choose_23 : decode cX4_choose 23 = .ok (.iconst 0, 1) := by decide +kernel
theorem dX4_choose_24 : decode cX4_choose 24 = .ok (.putfield 107, 3) := by decide +kernel
theorem dX4_choose_27 : decode cX4_choose 27 = .ok (.iconst 1, 1) := by decide +kernel
theorem dX4_choose_28 : decode cX4_choose 28 = .ok (.istore 4, 2) := by decide +kernel
theorem dX4_choose_30 : decode cX4_choose 30 = .ok (.iload 4, 2) := by decide +kernel
theorem dX4_choose_32 : decode cX4_choose 32 = .ok (.aload_n 0, 1) := by decide +kernel
theorem dX4_choose_33 : decode cX4_choose 33 = .ok (.getfield 36, 3) := by decide +kernel
theorem dX4_choose_36 : decode cX4_choose 36 = .ok (.if_icmp .gt 91, 3) := by decide +kernel
theorem dX4_choose_39 : decode cX4_choose 39 = .ok (.aload_n 0, 1) := by decide +kernel
theorem dX4_choose_40 : decode cX4_choose 40 = .ok (.getfield 18, 3) := by decide +kernel
theorem dX4_choose_43 : decode cX4_choose 43 = .ok (.getfield 77, 3) := by decide +kernel
theorem dX4_choose_46 : decode cX4_choose 46 = .ok (.iload 4, 2) := by decide +kernel
theorem dX4_choose_48 : decode cX4_choose 48 = .ok (.invokevirtual 110, 3) := by decide +kernel
theorem dX4_choose_51 : decode cX4_choose 51 = .ok (.istore 5, 2) := by decide +kernel
theorem dX4_choose_53 : decode cX4_choose 53 = .ok (.iload 5, 2) := by decide +kernel
theorem dX4_choose_55 : decode cX4_choose 55 = .ok (.aload_n 0, 1) := by decide +kernel
theorem dX4_choose_56 : decode cX4_choose 56 = .ok (.getfield 107, 3) := by decide +kernel
theorem dX4_choose_59 : decode cX4_choose 59 = .ok (.if_icmp .gt 29, 3) := by decide +kernel
theorem dX4_choose_62 : decode cX4_choose 62 = .ok (.iload 5, 2) := by decide +kernel
theorem dX4_choose_64 : decode cX4_choose 64 = .ok (.aload_n 0, 1) := by decide +kernel
theorem dX4_choose_65 : decode cX4_choose 65 = .ok (.getfield 107, 3) := by decide +kernel
theorem dX4_choose_68 : decode cX4_choose 68 = .ok (.if_icmp .ne 24, 3) := by decide +kernel
theorem dX4_choose_71 : decode cX4_choose 71 = .ok (.aload_n 0, 1) := by decide +kernel
theorem dX4_choose_72 : decode cX4_choose 72 = .ok (.getfield 22, 3) := by decide +kernel
theorem dX4_choose_75 : decode cX4_choose 75 = .ok (.iload 4, 2) := by decide +kernel
theorem dX4_choose_77 : decode cX4_choose 77 = .ok (.laload, 1) := by decide +kernel
theorem dX4_choose_78 : decode cX4_choose 78 = .ok (.aload_n 0, 1) := by decide +kernel
theorem dX4_choose_79 : decode cX4_choose 79 = .ok (.getfield 22, 3) := by decide +kernel
theorem dX4_choose_82 : decode cX4_choose 82 = .ok (.iload_n 3, 1) := by decide +kernel
theorem dX4_choose_83 : decode cX4_choose 83 = .ok (.laload, 1) := by decide +kernel
theorem dX4_choose_84 : decode cX4_choose 84 = .ok (.lcmp, 1) := by decide +kernel
theorem dX4_choose_85 : decode cX4_choose 85 = .ok (.ifCond .ge 7, 3) := by decide +kernel
theorem dX4_choose_88 : decode cX4_choose 88 = .ok (.iconst 1, 1) := by decide +kernel
theorem dX4_choose_89 : decode cX4_choose 89 = .ok (.goto 4, 3) := by decide +kernel
theorem dX4_choose_92 : decode cX4_choose 92 = .ok (.iconst 0, 1) := by decide +kernel
theorem dX4_choose_93 : decode cX4_choose 93 = .ok (.istore 6, 2) := by decide +kernel
theorem dX4_choose_95 : decode cX4_choose 95 = .ok (.aload_n 0, 1) := by decide +kernel
theorem dX4_choose_96 : decode cX4_choose 96 = .ok (.getfield 22, 3) := by decide +kernel
theorem dX4_choose_99 : decode cX4_choose 99 = .ok (.iload 4, 2) := by decide +kernel
theorem dX4_choose_101 : decode cX4_choose 101 = .ok (.laload, 1) := by decide +kernel
theorem dX4_choose_102 : decode cX4_choose 102 = .ok (.lload_n 1, 1) := by decide +kernel
theorem dX4_choose_103 : decode cX4_choose 103 = .ok (.lcmp, 1) := by decide +kernel
theorem dX4_choose_104 : decode cX4_choose 104 = .ok (.ifCond .ge 17, 3) := by decide +kernel
theorem dX4_choose_107 : decode cX4_choose 107 = .ok (.iload 6, 2) := by decide +kernel
theorem dX4_choose_109 : decode cX4_choose 109 = .ok (.ifCond .eq 12, 3) := by decide +kernel
theorem dX4_choose_112 : decode cX4_choose 112 = .ok (.iload 4, 2) := by decide +kernel
theorem dX4_choose_114 : decode cX4_choose 114 = .ok (.istore_n 3, 1) := by decide +kernel
theorem dX4_choose_115 : decode cX4_choose 115 = .ok (.aload_n 0, 1) := by decide +kernel
theorem dX4_choose_116 : decode cX4_choose 116 = .ok (.iload 5, 2) := by decide +kernel
theorem dX4_choose_118 : decode cX4_choose 118 = .ok (.putfield 107, 3) := by decide +kernel
theorem dX4_choose_121 : decode cX4_choose 121 = .ok (.iinc 4 1, 3) := by decide +kernel
theorem dX4_choose_124 : decode cX4_choose 124 = .ok (.goto (-94), 3) := by decide +kernel
theorem dX4_choose_127 : decode cX4_choose 127 = .ok (.aload_n 0, 1) := by decide +kernel
theorem dX4_choose_128 : decode cX4_choose 128 = .ok (.aload_n 0, 1) := by decide +kernel
theorem dX4_choose_129 : decode cX4_choose 129 = .ok (.getfield 22, 3) := by decide +kernel
theorem dX4_choose_132 : decode cX4_choose 132 = .ok (.iload_n 3, 1) := by decide +kernel
theorem dX4_choose_133 : decode cX4_choose 133 = .ok (.laload, 1) := by decide +kernel
theorem dX4_choose_134 : decode cX4_choose 134 = .ok (.ldc2_w 71, 3) := by decide +kernel
theorem dX4_choose_137 : decode cX4_choose 137 = .ok (.ldiv, 1) := by decide +kernel
theorem dX4_choose_138 : decode cX4_choose 138 = .ok (.l2i, 1) := by decide +kernel
theorem dX4_choose_139 : decode cX4_choose 139 = .ok (.putfield 113, 3) := by decide +kernel
theorem dX4_choose_142 : decode cX4_choose 142 = .ok (.iconst 0, 1) := by decide +kernel
theorem dX4_choose_143 : decode cX4_choose 143 = .ok (.istore 4, 2) := by decide +kernel
theorem dX4_choose_145 : decode cX4_choose 145 = .ok (.iload 4, 2) := by decide +kernel
theorem dX4_choose_147 : decode cX4_choose 147 = .ok (.bipush 8, 2) := by decide +kernel
theorem dX4_choose_149 : decode cX4_choose 149 = .ok (.if_icmp .ge 36, 3) := by decide +kernel
theorem dX4_choose_152 : decode cX4_choose 152 = .ok (.aload_n 0, 1) := by decide +kernel
theorem dX4_choose_153 : decode cX4_choose 153 = .ok (.getfield 9, 3) := by decide +kernel
theorem dX4_choose_156 : decode cX4_choose 156 = .ok (.iload 4, 2) := by decide +kernel
theorem dX4_choose_158 : decode cX4_choose 158 = .ok (.aload_n 0, 1) := by decide +kernel
theorem dX4_choose_159 : decode cX4_choose 159 = .ok (.getfield 22, 3) := by decide +kernel
theorem dX4_choose_162 : decode cX4_choose 162 = .ok (.iload_n 3, 1) := by decide +kernel
theorem dX4_choose_163 : decode cX4_choose 163 = .ok (.laload, 1) := by decide +kernel
theorem dX4_choose_164 : decode cX4_choose 164 = .ok (.getstatic 100, 3) := by decide +kernel
theorem dX4_choose_167 : decode cX4_choose 167 = .ok (.iload 4, 2) := by decide +kernel
theorem dX4_choose_169 : decode cX4_choose 169 = .ok (.laload, 1) := by decide +kernel
theorem dX4_choose_170 : decode cX4_choose 170 = .ok (.ldiv, 1) := by decide +kernel
theorem dX4_choose_171 : decode cX4_choose 171 = .ok (.ldc2_w 116, 3) := by decide +kernel
theorem dX4_choose_174 : decode cX4_choose 174 = .ok (.lrem, 1) := by decide +kernel
theorem dX4_choose_175 : decode cX4_choose 175 = .ok (.l2i, 1) := by decide +kernel
theorem dX4_choose_176 : decode cX4_choose 176 = .ok (.iconst 1, 1) := by decide +kernel
theorem dX4_choose_177 : decode cX4_choose 177 = .ok (.isub, 1) := by decide +kernel
theorem dX4_choose_178 : decode cX4_choose 178 = .ok (.iastore, 1) := by decide +kernel
theorem dX4_choose_179 : decode cX4_choose 179 = .ok (.iinc 4 1, 3) := by decide +kernel
theorem dX4_choose_182 : decode cX4_choose 182 = .ok (.goto (-37), 3) := by decide +kernel
theorem dX4_choose_185 : decode cX4_choose 185 = .ok (.return_, 1) := by decide +kernel
theorem dX5_init_0 : decode cX5_init 0 = .ok (.aload_n 0, 1) := by decide +kernel
theorem dX5_init_1 : decode cX5_init 1 = .ok (.invokespecial 3, 3) := by decide +kernel
theorem dX5_init_4 : decode cX5_init 4 = .ok (.aload_n 0, 1) := by decide +kernel
theorem dX5_init_5 : decode cX5_init 5 = .ok (.iconst (-1), 1) := by decide +kernel
theorem dX5_init_6 : decode cX5_init 6 = .ok (.putfield 9, 3) := by decide +kernel
theorem dX5_init_9 : decode cX5_init 9 = .ok (.aload_n 0, 1) := by decide +kernel
theorem dX5_init_10 : decode cX5_init 10 = .ok (.iconst 4, 1) := by decide +kernel
theorem dX5_init_11 : decode cX5_init 11 = .ok (.newarray .int, 2) := by decide +kernel
theorem dX5_init_13 : decode cX5_init 13 = .ok (.putfield 15, 3) := by decide +kernel
theorem dX5_init_16 : decode cX5_init 16 = .ok (.aload_n 0, 1) := by decide +kernel
theorem dX5_init_17 : decode cX5_init 17 = .ok (.iconst 4, 1) := by decide +kernel
theorem dX5_init_18 : decode cX5_init 18 = .ok (.newarray .boolean, 2) := by decide +kernel
theorem dX5_init_20 : decode cX5_init 20 = .ok (.putfield 19, 3) := by decide +kernel
theorem dX5_init_23 : decode cX5_init 23 = .ok (.aload_n 0, 1) := by decide +kernel
theorem dX5_init_24 : decode cX5_init 24 = .ok (.iconst 4, 1) := by decide +kernel
theorem dX5_init_25 : decode cX5_init 25 = .ok (.newarray .boolean, 2) := by decide +kernel
theorem dX5_init_27 : decode cX5_init 27 = .ok (.putfield 23, 3) := by decide +kernel
theorem dX5_init_30 : decode cX5_init 30 = .ok (.aload_n 0, 1) := by decide +kernel
theorem dX5_init_31 : decode cX5_init 31 = .ok (.iconst (-1), 1) := by decide +kernel
theorem dX5_init_32 : decode cX5_init 32 = .ok (.putfield 26, 3) := by decide +kernel
theorem dX5_init_35 : decode cX5_init 35 = .ok (.return_, 1) := by decide +kernel
theorem dX5_take_0 : decode cX5_take 0 = .ok (.aload_n 0, 1) := by decide +kernel
theorem dX5_take_1 : decode cX5_take 1 = .ok (.getfield 26, 3) := by decide +kernel
theorem dX5_take_4 : decode cX5_take 4 = .ok (.iconst (-1), 1) := by decide +kernel
theorem dX5_take_5 : decode cX5_take 5 = .ok (.if_icmp .ne 19, 3) := by decide +kernel
theorem dX5_take_8 : decode cX5_take 8 = .ok (.aload_n 0, 1) := by decide +kernel
theorem dX5_take_9 : decode cX5_take 9 = .ok (.iload_n 1, 1) := by decide +kernel
theorem dX5_take_10 : decode cX5_take 10 = .ok (.invokevirtual 29, 3) := by decide +kernel
theorem dX5_take_13 : decode cX5_take 13 = .ok (.ifCond .ne 11, 3) := by decide +kernel
theorem dX5_take_16 : decode cX5_take 16 = .ok (.aload_n 0, 1) := by decide +kernel
theorem dX5_take_17 : decode cX5_take 17 = .ok (.aload_n 0, 1) := by decide +kernel
theorem dX5_take_18 : decode cX5_take 18 = .ok (.getfield 33, 3) := by decide +kernel
theorem dX5_take_21 : decode cX5_take 21 = .ok (.putfield 26, 3) := by decide +kernel
theorem dX5_take_24 : decode cX5_take 24 = .ok (.aload_n 0, 1) := by decide +kernel
theorem dX5_take_25 : decode cX5_take 25 = .ok (.dup, 1) := by decide +kernel
theorem dX5_take_26 : decode cX5_take 26 = .ok (.getfield 33, 3) := by decide +kernel
theorem dX5_take_29 : decode cX5_take 29 = .ok (.iconst 1, 1) := by decide +kernel
theorem dX5_take_30 : decode cX5_take 30 = .ok (.iadd, 1) := by decide +kernel
theorem dX5_take_31 : decode cX5_take 31 = .ok (.putfield 33, 3) := by decide +kernel
theorem dX5_take_34 : decode cX5_take 34 = .ok (.aload_n 0, 1) := by decide +kernel
theorem dX5_take_35 : decode cX5_take 35 = .ok (.getfield 36, 3) := by decide +kernel
theorem dX5_take_38 : decode cX5_take 38 = .ok (.iconst 2, 1) := by decide +kernel
theorem dX5_take_39 : decode cX5_take 39 = .ok (.if_icmp .lt 7, 3) := by decide +kernel
theorem dX5_take_42 : decode cX5_take 42 = .ok (.iconst 1, 1) := by decide +kernel
theorem dX5_take_43 : decode cX5_take 43 = .ok (.goto 4, 3) := by decide +kernel
theorem dX5_take_46 : decode cX5_take 46 = .ok (.iconst 0, 1) := by decide +kernel
theorem dX5_take_47 : decode cX5_take 47 = .ok (.istore_n 2, 1) := by decide +kernel
theorem dX5_take_48 : decode cX5_take 48 = .ok (.aload_n 0, 1) := by decide +kernel
theorem dX5_take_49 : decode cX5_take 49 = .ok (.aload_n 0, 1) := by decide +kernel
theorem dX5_take_50 : decode cX5_take 50 = .ok (.getfield 26, 3) := by decide +kernel
theorem dX5_take_53 : decode cX5_take 53 = .ok (.iconst (-1), 1) := by decide +kernel
theorem dX5_take_54 : decode cX5_take 54 = .ok (.if_icmp .ne 7, 3) := by decide +kernel
theorem dX5_take_57 : decode cX5_take 57 = .ok (.iload_n 2, 1) := by decide +kernel
theorem dX5_take_58 : decode cX5_take 58 = .ok (.ifCond .eq 10, 3) := by decide +kernel
theorem dX5_take_61 : decode cX5_take 61 = .ok (.aload_n 0, 1) := by decide +kernel
theorem dX5_take_62 : decode cX5_take 62 = .ok (.getfield 26, 3) := by decide +kernel
theorem dX5_take_65 : decode cX5_take 65 = .ok (.goto 7, 3) := by decide +kernel
theorem dX5_take_68 : decode cX5_take 68 = .ok (.aload_n 0, 1) := by decide +kernel
theorem dX5_take_69 : decode cX5_take 69 = .ok (.getfield 33, 3) := by decide +kernel
theorem dX5_take_72 : decode cX5_take 72 = .ok (.putfield 9, 3) := by decide +kernel
theorem dX5_take_75 : decode cX5_take 75 = .ok (.aload_n 0, 1) := by decide +kernel
theorem dX5_take_76 : decode cX5_take 76 = .ok (.aload_n 0, 1) := by decide +kernel
theorem dX5_take_77 : decode cX5_take 77 = .ok (.getfield 9, 3) := by decide +kernel
theorem dX5_take_80 : decode cX5_take 80 = .ok (.iconst (-1), 1) := by decide +kernel
theorem dX5_take_81 : decode cX5_take 81 = .ok (.if_icmp .ne 10, 3) := by decide +kernel
theorem dX5_take_84 : decode cX5_take 84 = .ok (.aload_n 0, 1) := by decide +kernel
theorem dX5_take_85 : decode cX5_take 85 = .ok (.getfield 39, 3) := by decide +kernel
theorem dX5_take_88 : decode cX5_take 88 = .ok (.goto 4, 3) := by decide +kernel
theorem dX5_take_91 : decode cX5_take 91 = .ok (.iconst 0, 1) := by decide +kernel
theorem dX5_take_92 : decode cX5_take 92 = .ok (.putfield 42, 3) := by decide +kernel
theorem dX5_take_95 : decode cX5_take 95 = .ok (.aload_n 0, 1) := by decide +kernel
theorem dX5_take_96 : decode cX5_take 96 = .ok (.getfield 33, 3) := by decide +kernel
theorem dX5_take_99 : decode cX5_take 99 = .ok (.ireturn, 1) := by decide +kernel
theorem dX5_clear_0 : decode cX5_clear 0 = .ok (.aload_n 0, 1) := by decide +kernel
theorem dX5_clear_1 : decode cX5_clear 1 = .ok (.getfield 33, 3) := by decide +kernel
theorem dX5_clear_4 : decode cX5_clear 4 = .ok (.istore_n 1, 1) := by decide +kernel
theorem dX5_clear_5 : decode cX5_clear 5 = .ok (.aload_n 0, 1) := by decide +kernel
theorem dX5_clear_6 : decode cX5_clear 6 = .ok (.iconst 0, 1) := by decide +kernel
theorem dX5_clear_7 : decode cX5_clear 7 = .ok (.putfield 33, 3) := by decide +kernel
theorem dX5_clear_10 : decode cX5_clear 10 = .ok (.aload_n 0, 1) := by decide +kernel
theorem dX5_clear_11 : decode cX5_clear 11 = .ok (.iconst 0, 1) := by decide +kernel
theorem dX5_clear_12 : decode cX5_clear 12 = .ok (.putfield 42, 3) := by decide +kernel
theorem dX5_clear_15 : decode cX5_clear 15 = .ok (.aload_n 0, 1) := by decide +kernel
theorem dX5_clear_16 : decode cX5_clear 16 = .ok (.iconst (-1), 1) := by decide +kernel
theorem dX5_clear_17 : decode cX5_clear 17 = .ok (.putfield 9, 3) := by decide +kernel
theorem dX5_clear_20 : decode cX5_clear 20 = .ok (.aload_n 0, 1) := by decide +kernel
theorem dX5_clear_21 : decode cX5_clear 21 = .ok (.iconst 0, 1) := by decide +kernel
theorem dX5_clear_22 : decode cX5_clear 22 = .ok (.putfield 39, 3) := by decide +kernel
theorem dX5_clear_25 : decode cX5_clear 25 = .ok (.aload_n 0, 1) := by decide +kernel
theorem dX5_clear_26 : decode cX5_clear 26 = .ok (.iconst 0, 1) := by decide +kernel
theorem dX5_clear_27 : decode cX5_clear 27 = .ok (.putfield 36, 3) := by decide +kernel
theorem dX5_clear_30 : decode cX5_clear 30 = .ok (.aload_n 0, 1) := by decide +kernel
theorem dX5_clear_31 : decode cX5_clear 31 = .ok (.iconst (-1), 1) := by decide +kernel
theorem dX5_clear_32 : decode cX5_clear 32 = .ok (.putfield 26, 3) := by decide +kernel
theorem dX5_clear_35 : decode cX5_clear 35 = .ok (.iconst 0, 1) := by decide +kernel
theorem dX5_clear_36 : decode cX5_clear 36 = .ok (.istore_n 2, 1) := by decide +kernel
theorem dX5_clear_37 : decode cX5_clear 37 = .ok (.iload_n 2, 1) := by decide +kernel
theorem dX5_clear_38 : decode cX5_clear 38 = .ok (.iconst 4, 1) := by decide +kernel
theorem dX5_clear_39 : decode cX5_clear 39 = .ok (.if_icmp .ge 15, 3) := by decide +kernel
theorem dX5_clear_42 : decode cX5_clear 42 = .ok (.aload_n 0, 1) := by decide +kernel
theorem dX5_clear_43 : decode cX5_clear 43 = .ok (.iload_n 2, 1) := by decide +kernel
theorem dX5_clear_44 : decode cX5_clear 44 = .ok (.iconst 0, 1) := by decide +kernel
theorem dX5_clear_45 : decode cX5_clear 45 = .ok (.invokevirtual 45, 3) := by decide +kernel
theorem dX5_clear_48 : decode cX5_clear 48 = .ok (.iinc 2 1, 3) := by decide +kernel
theorem dX5_clear_51 : decode cX5_clear 51 = .ok (.goto (-14), 3) := by decide +kernel
theorem dX5_clear_54 : decode cX5_clear 54 = .ok (.iload_n 1, 1) := by decide +kernel
theorem dX5_clear_55 : decode cX5_clear 55 = .ok (.ireturn, 1) := by decide +kernel
theorem dX5_goesOn_0 : decode cX5_goesOn 0 = .ok (.aload_n 0, 1) := by decide +kernel
theorem dX5_goesOn_1 : decode cX5_goesOn 1 = .ok (.getfield 36, 3) := by decide +kernel
theorem dX5_goesOn_4 : decode cX5_goesOn 4 = .ok (.lookupswitch 48 #[(0, 28), (1, 37)], 28) := by decide +kernel
theorem dX5_goesOn_32 : decode cX5_goesOn 32 = .ok (.aload_n 0, 1) := by decide +kernel
theorem dX5_goesOn_33 : decode cX5_goesOn 33 = .ok (.iload_n 1, 1) := by decide +kernel
theorem dX5_goesOn_34 : decode cX5_goesOn 34 = .ok (.invokestatic 49, 3) := by decide +kernel
theorem dX5_goesOn_37 : decode cX5_goesOn 37 = .ok (.invokevirtual 53, 3) := by decide +kernel
theorem dX5_goesOn_40 : decode cX5_goesOn 40 = .ok (.ireturn, 1) := by decide +kernel
theorem dX5_goesOn_41 : decode cX5_goesOn 41 = .ok (.aload_n 0, 1) := by decide +kernel
theorem dX5_goesOn_42 : decode cX5_goesOn 42 = .ok (.iload_n 1, 1) := by decide +kernel
theorem dX5_goesOn_43 : decode cX5_goesOn 43 = .ok (.iconst 0, 1) := by decide +kernel
theorem dX5_goesOn_44 : decode cX5_goesOn 44 = .ok (.iconst 4, 1) := by decide +kernel
theorem dX5_goesOn_45 : decode cX5_goesOn 45 = .ok (.invokestatic 56, 3) := by decide +kernel
theorem dX5_goesOn_48 : decode cX5_goesOn 48 = .ok (.invokevirtual 60, 3) := by decide +kernel
theorem dX5_goesOn_51 : decode cX5_goesOn 51 = .ok (.ireturn, 1) := by decide +kernel
theorem dX5_goesOn_52 : decode cX5_goesOn 52 = .ok (.aload_n 0, 1) := by decide +kernel
theorem dX5_goesOn_53 : decode cX5_goesOn 53 = .ok (.iload_n 1, 1) := by decide +kernel
theorem dX5_goesOn_54 : decode cX5_goesOn 54 = .ok (.invokevirtual 63, 3) := by decide +kernel
theorem dX5_goesOn_57 : decode cX5_goesOn 57 = .ok (.ireturn, 1) := by decide +kernel
theorem dX5_takeKind_0 : decode cX5_takeKind 0 = .ok (.iload_n 1, 1) := by decide +kernel
theorem dX5_takeKind_1 : decode cX5_takeKind 1 = .ok (.iconst (-1), 1) := by decide +kernel
theorem dX5_takeKind_2 : decode cX5_takeKind 2 = .ok (.if_icmp .ne 5, 3) := by decide +kernel
theorem dX5_takeKind_5 : decode cX5_takeKind 5 = .ok (.iconst 0, 1) := by decide +kernel
theorem dX5_takeKind_6 : decode cX5_takeKind 6 = .ok (.ireturn, 1) := by decide +kernel
theorem dX5_takeKind_7 : decode cX5_takeKind 7 = .ok (.aload_n 0, 1) := by decide +kernel
theorem dX5_takeKind_8 : decode cX5_takeKind 8 = .ok (.iload_n 1, 1) := by decide +kernel
theorem dX5_takeKind_9 : decode cX5_takeKind 9 = .ok (.putfield 66, 3) := by decide +kernel
theorem dX5_takeKind_12 : decode cX5_takeKind 12 = .ok (.aload_n 0, 1) := by decide +kernel
theorem dX5_takeKind_13 : decode cX5_takeKind 13 = .ok (.iconst 1, 1) := by decide +kernel
theorem dX5_takeKind_14 : decode cX5_takeKind 14 = .ok (.putfield 36, 3) := by decide +kernel
theorem dX5_takeKind_17 : decode cX5_takeKind 17 = .ok (.iconst 1, 1) := by decide +kernel
theorem dX5_takeKind_18 : decode cX5_takeKind 18 = .ok (.ireturn, 1) := by decide +kernel
theorem dX5_takeMany_0 : decode cX5_takeMany 0 = .ok (.iload_n 1, 1) := by decide +kernel
theorem dX5_takeMany_1 : decode cX5_takeMany 1 = .ok (.iconst (-1), 1) := by decide +kernel
theorem dX5_takeMany_2 : decode cX5_takeMany 2 = .ok (.if_icmp .ne 5, 3) := by decide +kernel
theorem dX5_takeMany_5 : decode cX5_takeMany 5 = .ok (.iconst 0, 1) := by decide +kernel
theorem dX5_takeMany_6 : decode cX5_takeMany 6 = .ok (.ireturn, 1) := by decide +kernel
theorem dX5_takeMany_7 : decode cX5_takeMany 7 = .ok (.aload_n 0, 1) := by decide +kernel
theorem dX5_takeMany_8 : decode cX5_takeMany 8 = .ok (.aload_n 0, 1) := by decide +kernel
theorem dX5_takeMany_9 : decode cX5_takeMany 9 = .ok (.getfield 66, 3) := by decide +kernel
theorem dX5_takeMany_12 : decode cX5_takeMany 12 = .ok (.iload_n 1, 1) := by decide +kernel
theorem dX5_takeMany_13 : decode cX5_takeMany 13 = .ok (.invokevirtual 45, 3) := by decide +kernel
theorem dX5_takeMany_16 : decode cX5_takeMany 16 = .ok (.aload_n 0, 1) := by decide +kernel
theorem dX5_takeMany_17 : decode cX5_takeMany 17 = .ok (.dup, 1) := by decide +kernel
theorem dX5_takeMany_18 : decode cX5_takeMany 18 = .ok (.getfield 39, 3) := by decide +kernel
theorem dX5_takeMany_21 : decode cX5_takeMany 21 = .ok (.iconst 1, 1) := by decide +kernel
theorem dX5_takeMany_22 : decode cX5_takeMany 22 = .ok (.iadd, 1) := by decide +kernel
theorem dX5_takeMany_23 : decode cX5_takeMany 23 = .ok (.putfield 39, 3) := by decide +kernel
theorem dX5_takeMany_26 : decode cX5_takeMany 26 = .ok (.aload_n 0, 1) := by decide +kernel
theorem dX5_takeMany_27 : decode cX5_takeMany 27 = .ok (.iconst 2, 1) := by decide +kernel
theorem dX5_takeMany_28 : decode cX5_takeMany 28 = .ok (.putfield 36, 3) := by decide +kernel
theorem dX5_takeMany_31 : decode cX5_takeMany 31 = .ok (.iconst 1, 1) := by decide +kernel
theorem dX5_takeMany_32 : decode cX5_takeMany 32 = .ok (.ireturn, 1) := by decide +kernel
theorem dX5_takeMark_0 : decode cX5_takeMark 0 = .ok (.iload_n 1, 1) := by decide +kernel
theorem dX5_takeMark_1 : decode cX5_takeMark 1 = .ok (.bipush 59, 2) := by decide +kernel
theorem dX5_takeMark_3 : decode cX5_takeMark 3 = .ok (.if_icmp .ne 10, 3) := by decide +kernel
theorem dX5_takeMark_6 : decode cX5_takeMark 6 = .ok (.aload_n 0, 1) := by decide +kernel
theorem dX5_takeMark_7 : decode cX5_takeMark 7 = .ok (.iconst 0, 1) := by decide +kernel
theorem dX5_takeMark_8 : decode cX5_takeMark 8 = .ok (.putfield 36, 3) := by decide +kernel
theorem dX5_takeMark_11 : decode cX5_takeMark 11 = .ok (.iconst 1, 1) := by decide +kernel
theorem dX5_takeMark_12 : decode cX5_takeMark 12 = .ok (.ireturn, 1) := by decide +kernel
theorem dX5_takeMark_13 : decode cX5_takeMark 13 = .ok (.iload_n 1, 1) := by decide +kernel
theorem dX5_takeMark_14 : decode cX5_takeMark 14 = .ok (.bipush 119, 2) := by decide +kernel
theorem dX5_takeMark_16 : decode cX5_takeMark 16 = .ok (.if_icmp .ne 28, 3) := by decide +kernel
theorem dX5_takeMark_19 : decode cX5_takeMark 19 = .ok (.aload_n 0, 1) := by decide +kernel
theorem dX5_takeMark_20 : decode cX5_takeMark 20 = .ok (.getfield 36, 3) := by decide +kernel
theorem dX5_takeMark_23 : decode cX5_takeMark 23 = .ok (.iconst 3, 1) := by decide +kernel
theorem dX5_takeMark_24 : decode cX5_takeMark 24 = .ok (.if_icmp .ge 20, 3) := by decide +kernel
theorem dX5_takeMark_27 : decode cX5_takeMark 27 = .ok (.aload_n 0, 1) := by decide +kernel
theorem dX5_takeMark_28 : decode cX5_takeMark 28 = .ok (.getfield 19, 3) := by decide +kernel
theorem dX5_takeMark_31 : decode cX5_takeMark 31 = .ok (.aload_n 0, 1) := by decide +kernel
theorem dX5_takeMark_32 : decode cX5_takeMark 32 = .ok (.getfield 66, 3) := by decide +kernel
theorem dX5_takeMark_35 : decode cX5_takeMark 35 = .ok (.iconst 1, 1) := by decide +kernel
theorem dX5_takeMark_36 : decode cX5_takeMark 36 = .ok (.bastore, 1) := by decide +kernel
theorem dX5_takeMark_37 : decode cX5_takeMark 37 = .ok (.aload_n 0, 1) := by decide +kernel
theorem dX5_takeMark_38 : decode cX5_takeMark 38 = .ok (.iconst 3, 1) := by decide +kernel
theorem dX5_takeMark_39 : decode cX5_takeMark 39 = .ok (.putfield 36, 3) := by decide +kernel
theorem dX5_takeMark_42 : decode cX5_takeMark 42 = .ok (.iconst 1, 1) := by decide +kernel
theorem dX5_takeMark_43 : decode cX5_takeMark 43 = .ok (.ireturn, 1) := by decide +kernel
theorem dX5_takeMark_44 : decode cX5_takeMark 44 = .ok (.iload_n 1, 1) := by decide +kernel
theorem dX5_takeMark_45 : decode cX5_takeMark 45 = .ok (.bipush 104, 2) := by decide +kernel
theorem dX5_takeMark_47 : decode cX5_takeMark 47 = .ok (.if_icmp .ne 28, 3) := by decide +kernel
theorem dX5_takeMark_50 : decode cX5_takeMark 50 = .ok (.aload_n 0, 1) := by decide +kernel
theorem dX5_takeMark_51 : decode cX5_takeMark 51 = .ok (.getfield 36, 3) := by decide +kernel
theorem dX5_takeMark_54 : decode cX5_takeMark 54 = .ok (.iconst 4, 1) := by decide +kernel
theorem dX5_takeMark_55 : decode cX5_takeMark 55 = .ok (.if_icmp .ge 20, 3) := by decide +kernel
theorem dX5_takeMark_58 : decode cX5_takeMark 58 = .ok (.aload_n 0, 1) := by decide +kernel
theorem dX5_takeMark_59 : decode cX5_takeMark 59 = .ok (.getfield 23, 3) := by decide +kernel
theorem dX5_takeMark_62 : decode cX5_takeMark 62 = .ok (.aload_n 0, 1) := by decide +kernel
theorem dX5_takeMark_63 : decode cX5_takeMark 63 = .ok (.getfield 66, 3) := by decide +kernel
theorem dX5_takeMark_66 : decode cX5_takeMark 66 = .ok (.iconst 1, 1) := by decide +kernel
theorem dX5_takeMark_67 : decode cX5_takeMark 67 = .ok (.bastore, 1) := by decide +kernel
theorem dX5_takeMark_68 : decode cX5_takeMark 68 = .ok (.aload_n 0, 1) := by decide +kernel
theorem dX5_takeMark_69 : decode cX5_takeMark 69 = .ok (.iconst 4, 1) := by decide +kernel
theorem dX5_takeMark_70 : decode cX5_takeMark 70 = .ok (.putfield 36, 3) := by decide +kernel
theorem dX5_takeMark_73 : decode cX5_takeMark 73 = .ok (.iconst 1, 1) := by decide +kernel
theorem dX5_takeMark_74 : decode cX5_takeMark 74 = .ok (.ireturn, 1) := by decide +kernel
theorem dX5_takeMark_75 : decode cX5_takeMark 75 = .ok (.iconst 0, 1) := by decide +kernel
theorem dX5_takeMark_76 : decode cX5_takeMark 76 = .ok (.ireturn, 1) := by decide +kernel
theorem dX5_say_0 : decode cX5_say 0 = .ok (.aload_n 0, 1) := by decide +kernel
theorem dX5_say_1 : decode cX5_say 1 = .ok (.getfield 15, 3) := by decide +kernel
theorem dX5_say_4 : decode cX5_say 4 = .ok (.iload_n 1, 1) := by decide +kernel
theorem dX5_say_5 : decode cX5_say 5 = .ok (.iload_n 2, 1) := by decide +kernel
theorem dX5_say_6 : decode cX5_say 6 = .ok (.iastore, 1) := by decide +kernel
theorem dX5_say_7 : decode cX5_say 7 = .ok (.aload_n 0, 1) := by decide +kernel
theorem dX5_say_8 : decode cX5_say 8 = .ok (.getfield 19, 3) := by decide +kernel
theorem dX5_say_11 : decode cX5_say 11 = .ok (.iload_n 1, 1) := by decide +kernel
theorem dX5_say_12 : decode cX5_say 12 = .ok (.iconst 0, 1) := by decide +kernel
theorem dX5_say_13 : decode cX5_say 13 = .ok (.bastore, 1) := by decide +kernel
theorem dX5_say_14 : decode cX5_say 14 = .ok (.aload_n 0, 1) := by decide +kernel
theorem dX5_say_15 : decode cX5_say 15 = .ok (.getfield 23, 3) := by decide +kernel
theorem dX5_say_18 : decode cX5_say 18 = .ok (.iload_n 1, 1) := by decide +kernel
theorem dX5_say_19 : decode cX5_say 19 = .ok (.iconst 0, 1) := by decide +kernel
theorem dX5_say_20 : decode cX5_say 20 = .ok (.bastore, 1) := by decide +kernel
theorem dX5_say_21 : decode cX5_say 21 = .ok (.return_, 1) := by decide +kernel
theorem dX5_needOf_0 : decode cX5_needOf 0 = .ok (.aload_n 0, 1) := by decide +kernel
theorem dX5_needOf_1 : decode cX5_needOf 1 = .ok (.getfield 9, 3) := by decide +kernel
theorem dX5_needOf_4 : decode cX5_needOf 4 = .ok (.iconst (-1), 1) := by decide +kernel
theorem dX5_needOf_5 : decode cX5_needOf 5 = .ok (.if_icmp .ne 12, 3) := by decide +kernel
theorem dX5_needOf_8 : decode cX5_needOf 8 = .ok (.aload_n 0, 1) := by decide +kernel
theorem dX5_needOf_9 : decode cX5_needOf 9 = .ok (.getfield 15, 3) := by decide +kernel
theorem dX5_needOf_12 : decode cX5_needOf 12 = .ok (.iload_n 1, 1) := by decide +kernel
theorem dX5_needOf_13 : decode cX5_needOf 13 = .ok (.iaload, 1) := by decide +kernel
theorem dX5_needOf_14 : decode cX5_needOf 14 = .ok (.goto 4, 3) := by decide +kernel
theorem dX5_needOf_17 : decode cX5_needOf 17 = .ok (.iconst 0, 1) := by decide +kernel
theorem dX5_needOf_18 : decode cX5_needOf 18 = .ok (.ireturn, 1) := by decide +kernel
theorem dX5_asksWeather_0 : decode cX5_asksWeather 0 = .ok (.aload_n 0, 1) := by decide +kernel
theorem dX5_asksWeather_1 : decode cX5_asksWeather 1 = .ok (.getfield 9, 3) := by decide +kernel
theorem dX5_asksWeather_4 : decode cX5_asksWeather 4 = .ok (.iconst (-1), 1) := by decide +kernel
theorem dX5_asksWeather_5 : decode cX5_asksWeather 5 = .ok (.if_icmp .ne 16, 3) := by decide +kernel
theorem dX5_asksWeather_8 : decode cX5_asksWeather 8 = .ok (.aload_n 0, 1) := by decide +kernel
theorem dX5_asksWeather_9 : decode cX5_asksWeather 9 = .ok (.getfield 19, 3) := by decide +kernel
theorem dX5_asksWeather_12 : decode cX5_asksWeather 12 = .ok (.iload_n 1, 1) := by decide +kernel
theorem dX5_asksWeather_13 : decode cX5_asksWeather 13 = .ok (.baload, 1) := by decide +kernel
theorem dX5_asksWeather_14 : decode cX5_asksWeather 14 = .ok (.ifCond .eq 7, 3) := by decide +kernel
theorem dX5_asksWeather_17 : decode cX5_asksWeather 17 = .ok (.iconst 1, 1) := by decide +kernel
theorem dX5_asksWeather_18 : decode cX5_asksWeather 18 = .ok (.goto 4, 3) := by decide +kernel
theorem dX5_asksWeather_21 : decode cX5_asksWeather 21 = .ok (.iconst 0, 1) := by decide +kernel
theorem dX5_asksWeather_22 : decode cX5_asksWeather 22 = .ok (.ireturn, 1) := by decide +kernel
theorem dX5_asksPlace_0 : decode cX5_asksPlace 0 = .ok (.aload_n 0, 1) := by decide +kernel
theorem dX5_asksPlace_1 : decode cX5_asksPlace 1 = .ok (.getfield 9, 3) := by decide +kernel
theorem dX5_asksPlace_4 : decode cX5_asksPlace 4 = .ok (.iconst (-1), 1) := by decide +kernel
theorem dX5_asksPlace_5 : decode cX5_asksPlace 5 = .ok (.if_icmp .ne 16, 3) := by decide +kernel
theorem dX5_asksPlace_8 : decode cX5_asksPlace 8 = .ok (.aload_n 0, 1) := by decide +kernel
theorem dX5_asksPlace_9 : decode cX5_asksPlace 9 = .ok (.getfield 23, 3) := by decide +kernel
theorem dX5_asksPlace_12 : decode cX5_asksPlace 12 = .ok (.iload_n 1, 1) := by decide +kernel
theorem dX5_asksPlace_13 : decode cX5_asksPlace 13 = .ok (.baload, 1) := by decide +kernel
theorem dX5_asksPlace_14 : decode cX5_asksPlace 14 = .ok (.ifCond .eq 7, 3) := by decide +kernel
theorem dX5_asksPlace_17 : decode cX5_asksPlace 17 = .ok (.iconst 1, 1) := by decide +kernel
theorem dX5_asksPlace_18 : decode cX5_asksPlace 18 = .ok (.goto 4, 3) := by decide +kernel
theorem dX5_asksPlace_21 : decode cX5_asksPlace 21 = .ok (.iconst 0, 1) := by decide +kernel
theorem dX5_asksPlace_22 : decode cX5_asksPlace 22 = .ok (.ireturn, 1) := by decide +kernel
theorem dX6_init_0 : decode cX6_init 0 = .ok (.aload_n 0, 1) := by decide +kernel
theorem dX6_init_1 : decode cX6_init 1 = .ok (.invokespecial 3, 3) := by decide +kernel
theorem dX6_init_4 : decode cX6_init 4 = .ok (.aload_n 0, 1) := by decide +kernel
theorem dX6_init_5 : decode cX6_init 5 = .ok (.iconst 4, 1) := by decide +kernel
theorem dX6_init_6 : decode cX6_init 6 = .ok (.bipush 60, 2) := by decide +kernel
theorem dX6_init_8 : decode cX6_init 8 = .ok (.multianewarray 11 2, 4) := by decide +kernel
theorem dX6_init_12 : decode cX6_init 12 = .ok (.putfield 13, 3) := by decide +kernel
theorem dX6_init_15 : decode cX6_init 15 = .ok (.aload_n 0, 1) := by decide +kernel
theorem dX6_init_16 : decode cX6_init 16 = .ok (.iconst 4, 1) := by decide +kernel
theorem dX6_init_17 : decode cX6_init 17 = .ok (.newarray .int, 2) := by decide +kernel
theorem dX6_init_19 : decode cX6_init 19 = .ok (.putfield 16, 3) := by decide +kernel
theorem dX6_init_22 : decode cX6_init 22 = .ok (.aload_n 0, 1) := by decide +kernel
theorem dX6_init_23 : decode cX6_init 23 = .ok (.iconst 4, 1) := by decide +kernel
theorem dX6_init_24 : decode cX6_init 24 = .ok (.newarray .int, 2) := by decide +kernel
theorem dX6_init_26 : decode cX6_init 26 = .ok (.putfield 20, 3) := by decide +kernel
theorem dX6_init_29 : decode cX6_init 29 = .ok (.iconst 0, 1) := by decide +kernel
theorem dX6_init_30 : decode cX6_init 30 = .ok (.istore_n 1, 1) := by decide +kernel
theorem dX6_init_31 : decode cX6_init 31 = .ok (.iload_n 1, 1) := by decide +kernel
theorem dX6_init_32 : decode cX6_init 32 = .ok (.iconst 4, 1) := by decide +kernel
theorem dX6_init_33 : decode cX6_init 33 = .ok (.if_icmp .ge 16, 3) := by decide +kernel
theorem dX6_init_36 : decode cX6_init 36 = .ok (.aload_n 0, 1) := by decide +kernel
theorem dX6_init_37 : decode cX6_init 37 = .ok (.getfield 16, 3) := by decide +kernel
theorem dX6_init_40 : decode cX6_init 40 = .ok (.iload_n 1, 1) := by decide +kernel
theorem dX6_init_41 : decode cX6_init 41 = .ok (.iconst (-1), 1) := by decide +kernel
theorem dX6_init_42 : decode cX6_init 42 = .ok (.iastore, 1) := by decide +kernel
theorem dX6_init_43 : decode cX6_init 43 = .ok (.iinc 1 1, 3) := by decide +kernel
theorem dX6_init_46 : decode cX6_init 46 = .ok (.goto (-15), 3) := by decide +kernel
theorem dX6_init_49 : decode cX6_init 49 = .ok (.return_, 1) := by decide +kernel
theorem dX6_isNumber_0 : decode cX6_isNumber 0 = .ok (.iload_n 0, 1) := by decide +kernel
theorem dX6_isNumber_1 : decode cX6_isNumber 1 = .ok (.iconst 3, 1) := by decide +kernel
theorem dX6_isNumber_2 : decode cX6_isNumber 2 = .ok (.invokestatic 23, 3) := by decide +kernel
theorem dX6_isNumber_5 : decode cX6_isNumber 5 = .ok (.ireturn, 1) := by decide +kernel
theorem dX6_isForm_0 : decode cX6_isForm 0 = .ok (.iload_n 0, 1) := by decide +kernel
theorem dX6_isForm_1 : decode cX6_isForm 1 = .ok (.iconst 2, 1) := by decide +kernel
theorem dX6_isForm_2 : decode cX6_isForm 2 = .ok (.invokestatic 23, 3) := by decide +kernel
theorem dX6_isForm_5 : decode cX6_isForm 5 = .ok (.ireturn, 1) := by decide +kernel
theorem dX6_isLost_0 : decode cX6_isLost 0 = .ok (.aload_n 0, 1) := by decide +kernel
theorem dX6_isLost_1 : decode cX6_isLost 1 = .ok (.getfield 16, 3) := by decide +kernel
theorem dX6_isLost_4 : decode cX6_isLost 4 = .ok (.iload_n 1, 1) := by decide +kernel
theorem dX6_isLost_5 : decode cX6_isLost 5 = .ok (.iaload, 1) := by decide +kernel
theorem dX6_isLost_6 : decode cX6_isLost 6 = .ok (.iconst (-1), 1) := by decide +kernel
theorem dX6_isLost_7 : decode cX6_isLost 7 = .ok (.if_icmp .ne 7, 3) := by decide +kernel
theorem dX6_isLost_10 : decode cX6_isLost 10 = .ok (.iconst 1, 1) := by decide +kernel
theorem dX6_isLost_11 : decode cX6_isLost 11 = .ok (.goto 4, 3) := by decide +kernel
theorem dX6_isLost_14 : decode cX6_isLost 14 = .ok (.iconst 0, 1) := by decide +kernel
theorem dX6_isLost_15 : decode cX6_isLost 15 = .ok (.ireturn, 1) := by decide +kernel
theorem dX6_tell_0 : decode cX6_tell 0 = .ok (.aload_n 0, 1) := by decide +kernel
theorem dX6_tell_1 : decode cX6_tell 1 = .ok (.iload_n 1, 1) := by decide +kernel
theorem dX6_tell_2 : decode cX6_tell 2 = .ok (.putfield 27, 3) := by decide +kernel
theorem dX6_tell_5 : decode cX6_tell 5 = .ok (.bipush (-10), 2) := by decide +kernel
theorem dX6_tell_7 : decode cX6_tell 7 = .ok (.iload_n 1, 1) := by decide +kernel
theorem dX6_tell_8 : decode cX6_tell 8 = .ok (.isub, 1) := by decide +kernel
theorem dX6_tell_9 : decode cX6_tell 9 = .ok (.ireturn, 1) := by decide +kernel
theorem dX6_renew_0 : decode cX6_renew 0 = .ok (.aload_n 0, 1) := by decide +kernel
theorem dX6_renew_1 : decode cX6_renew 1 = .ok (.getfield 16, 3) := by decide +kernel
theorem dX6_renew_4 : decode cX6_renew 4 = .ok (.iload_n 1, 1) := by decide +kernel
theorem dX6_renew_5 : decode cX6_renew 5 = .ok (.iload_n 2, 1) := by decide +kernel
theorem dX6_renew_6 : decode cX6_renew 6 = .ok (.iastore, 1) := by decide +kernel
theorem dX6_renew_7 : decode cX6_renew 7 = .ok (.aload_n 0, 1) := by decide +kernel
theorem dX6_renew_8 : decode cX6_renew 8 = .ok (.getfield 20, 3) := by decide +kernel
theorem dX6_renew_11 : decode cX6_renew 11 = .ok (.iload_n 1, 1) := by decide +kernel
theorem dX6_renew_12 : decode cX6_renew 12 = .ok (.iload_n 3, 1) := by decide +kernel
theorem dX6_renew_13 : decode cX6_renew 13 = .ok (.iastore, 1) := by decide +kernel
theorem dX6_renew_14 : decode cX6_renew 14 = .ok (.iconst 0, 1) := by decide +kernel
theorem dX6_renew_15 : decode cX6_renew 15 = .ok (.istore 4, 2) := by decide +kernel
theorem dX6_renew_17 : decode cX6_renew 17 = .ok (.iload 4, 2) := by decide +kernel
theorem dX6_renew_19 : decode cX6_renew 19 = .ok (.bipush 60, 2) := by decide +kernel
theorem dX6_renew_21 : decode cX6_renew 21 = .ok (.if_icmp .ge 19, 3) := by decide +kernel
theorem dX6_renew_24 : decode cX6_renew 24 = .ok (.aload_n 0, 1) := by decide +kernel
theorem dX6_renew_25 : decode cX6_renew 25 = .ok (.getfield 13, 3) := by decide +kernel
theorem dX6_renew_28 : decode cX6_renew 28 = .ok (.iload_n 1, 1) := by decide +kernel
theorem dX6_renew_29 : decode cX6_renew 29 = .ok (.aaload, 1) := by decide +kernel
theorem dX6_renew_30 : decode cX6_renew 30 = .ok (.iload 4, 2) := by decide +kernel
theorem dX6_renew_32 : decode cX6_renew 32 = .ok (.iconst 0, 1) := by decide +kernel
theorem dX6_renew_33 : decode cX6_renew 33 = .ok (.iastore, 1) := by decide +kernel
theorem dX6_renew_34 : decode cX6_renew 34 = .ok (.iinc 4 1, 3) := by decide +kernel
theorem dX6_renew_37 : decode cX6_renew 37 = .ok (.goto (-20), 3) := by decide +kernel
theorem dX6_renew_40 : decode cX6_renew 40 = .ok (.iload_n 3, 1) := by decide +kernel
theorem dX6_renew_41 : decode cX6_renew 41 = .ok (.ireturn, 1) := by decide +kernel
theorem dX6_drop_0 : decode cX6_drop 0 = .ok (.aload_n 0, 1) := by decide +kernel
theorem dX6_drop_1 : decode cX6_drop 1 = .ok (.getfield 16, 3) := by decide +kernel
theorem dX6_drop_4 : decode cX6_drop 4 = .ok (.iload_n 1, 1) := by decide +kernel
theorem dX6_drop_5 : decode cX6_drop 5 = .ok (.iconst (-1), 1) := by decide +kernel
theorem dX6_drop_6 : decode cX6_drop 6 = .ok (.iastore, 1) := by decide +kernel
theorem dX6_drop_7 : decode cX6_drop 7 = .ok (.aload_n 0, 1) := by decide +kernel
theorem dX6_drop_8 : decode cX6_drop 8 = .ok (.getfield 20, 3) := by decide +kernel
theorem dX6_drop_11 : decode cX6_drop 11 = .ok (.iload_n 1, 1) := by decide +kernel
theorem dX6_drop_12 : decode cX6_drop 12 = .ok (.iaload, 1) := by decide +kernel
theorem dX6_drop_13 : decode cX6_drop 13 = .ok (.ireturn, 1) := by decide +kernel
theorem dX6_findingAt_0 : decode cX6_findingAt 0 = .ok (.aload_n 0, 1) := by decide +kernel
theorem dX6_findingAt_1 : decode cX6_findingAt 1 = .ok (.iload_n 1, 1) := by decide +kernel
theorem dX6_findingAt_2 : decode cX6_findingAt 2 = .ok (.invokevirtual 31, 3) := by decide +kernel
theorem dX6_findingAt_5 : decode cX6_findingAt 5 = .ok (.ifCond .eq 5, 3) := by decide +kernel
theorem dX6_findingAt_8 : decode cX6_findingAt 8 = .ok (.iconst 1, 1) := by decide +kernel
theorem dX6_findingAt_9 : decode cX6_findingAt 9 = .ok (.ireturn, 1) := by decide +kernel
theorem dX6_findingAt_10 : decode cX6_findingAt 10 = .ok (.aload_n 0, 1) := by decide +kernel
theorem dX6_findingAt_11 : decode cX6_findingAt 11 = .ok (.getfield 16, 3) := by decide +kernel
theorem dX6_findingAt_14 : decode cX6_findingAt 14 = .ok (.iload_n 1, 1) := by decide +kernel
theorem dX6_findingAt_15 : decode cX6_findingAt 15 = .ok (.iaload, 1) := by decide +kernel
theorem dX6_findingAt_16 : decode cX6_findingAt 16 = .ok (.iload_n 2, 1) := by decide +kernel
theorem dX6_findingAt_17 : decode cX6_findingAt 17 = .ok (.if_icmp .eq 5, 3) := by decide +kernel
theorem dX6_findingAt_20 : decode cX6_findingAt 20 = .ok (.iconst 3, 1) := by decide +kernel
theorem dX6_findingAt_21 : decode cX6_findingAt 21 = .ok (.ireturn, 1) := by decide +kernel
theorem dX6_findingAt_22 : decode cX6_findingAt 22 = .ok (.iload_n 3, 1) := by decide +kernel
theorem dX6_findingAt_23 : decode cX6_findingAt 23 = .ok (.aload_n 0, 1) := by decide +kernel
theorem dX6_findingAt_24 : decode cX6_findingAt 24 = .ok (.getfield 20, 3) := by decide +kernel
theorem dX6_findingAt_27 : decode cX6_findingAt 27 = .ok (.iload_n 1, 1) := by decide +kernel
theorem dX6_findingAt_28 : decode cX6_findingAt 28 = .ok (.iaload, 1) := by decide +kernel
theorem dX6_findingAt_29 : decode cX6_findingAt 29 = .ok (.iconst 1, 1) := by decide +kernel
theorem dX6_findingAt_30 : decode cX6_findingAt 30 = .ok (.isub, 1) := by decide +kernel
theorem dX6_findingAt_31 : decode cX6_findingAt 31 = .ok (.invokestatic 23, 3) := by decide +kernel
theorem dX6_findingAt_34 : decode cX6_findingAt 34 = .ok (.ifCond .eq 7, 3) := by decide +kernel
theorem dX6_findingAt_37 : decode cX6_findingAt 37 = .ok (.iconst 0, 1) := by decide +kernel
theorem dX6_findingAt_38 : decode cX6_findingAt 38 = .ok (.goto 4, 3) := by decide +kernel
theorem dX6_findingAt_41 : decode cX6_findingAt 41 = .ok (.iconst 2, 1) := by decide +kernel
theorem dX6_findingAt_42 : decode cX6_findingAt 42 = .ok (.ireturn, 1) := by decide +kernel
theorem dX6_hasSpan_0 : decode cX6_hasSpan 0 = .ok (.iload_n 2, 1) := by decide +kernel
theorem dX6_hasSpan_1 : decode cX6_hasSpan 1 = .ok (.ifCond .lt 23, 3) := by decide +kernel
theorem dX6_hasSpan_4 : decode cX6_hasSpan 4 = .ok (.iload_n 3, 1) := by decide +kernel
theorem dX6_hasSpan_5 : decode cX6_hasSpan 5 = .ok (.ifCond .lt 19, 3) := by decide +kernel
theorem dX6_hasSpan_8 : decode cX6_hasSpan 8 = .ok (.iload_n 2, 1) := by decide +kernel
theorem dX6_hasSpan_9 : decode cX6_hasSpan 9 = .ok (.aload_n 0, 1) := by decide +kernel
theorem dX6_hasSpan_10 : decode cX6_hasSpan 10 = .ok (.getfield 20, 3) := by decide +kernel
theorem dX6_hasSpan_13 : decode cX6_hasSpan 13 = .ok (.iload_n 1, 1) := by decide +kernel
theorem dX6_hasSpan_14 : decode cX6_hasSpan 14 = .ok (.iaload, 1) := by decide +kernel
theorem dX6_hasSpan_15 : decode cX6_hasSpan 15 = .ok (.iload_n 3, 1) := by decide +kernel
theorem dX6_hasSpan_16 : decode cX6_hasSpan 16 = .ok (.isub, 1) := by decide +kernel
theorem dX6_hasSpan_17 : decode cX6_hasSpan 17 = .ok (.if_icmp .gt 7, 3) := by decide +kernel
theorem dX6_hasSpan_20 : decode cX6_hasSpan 20 = .ok (.iconst 1, 1) := by decide +kernel
theorem dX6_hasSpan_21 : decode cX6_hasSpan 21 = .ok (.goto 4, 3) := by decide +kernel
theorem dX6_hasSpan_24 : decode cX6_hasSpan 24 = .ok (.iconst 0, 1) := by decide +kernel
theorem dX6_hasSpan_25 : decode cX6_hasSpan 25 = .ok (.ireturn, 1) := by decide +kernel
theorem dX6_store_0 : decode cX6_store 0 = .ok (.aload_n 0, 1) := by decide +kernel
theorem dX6_store_1 : decode cX6_store 1 = .ok (.getfield 16, 3) := by decide +kernel
theorem dX6_store_4 : decode cX6_store 4 = .ok (.iload_n 1, 1) := by decide +kernel
theorem dX6_store_5 : decode cX6_store 5 = .ok (.iaload, 1) := by decide +kernel
theorem dX6_store_6 : decode cX6_store 6 = .ok (.ifCond .ne 16, 3) := by decide +kernel
theorem dX6_store_9 : decode cX6_store 9 = .ok (.aload_n 0, 1) := by decide +kernel
theorem dX6_store_10 : decode cX6_store 10 = .ok (.getfield 13, 3) := by decide +kernel
theorem dX6_store_13 : decode cX6_store 13 = .ok (.iload_n 1, 1) := by decide +kernel
theorem dX6_store_14 : decode cX6_store 14 = .ok (.aaload, 1) := by decide +kernel
theorem dX6_store_15 : decode cX6_store 15 = .ok (.iload_n 2, 1) := by decide +kernel
theorem dX6_store_16 : decode cX6_store 16 = .ok (.iload_n 3, 1) := by decide +kernel
theorem dX6_store_17 : decode cX6_store 17 = .ok (.i2b, 1) := by decide +kernel
theorem dX6_store_18 : decode cX6_store 18 = .ok (.iastore, 1) := by decide +kernel
theorem dX6_store_19 : decode cX6_store 19 = .ok (.goto 35, 3) := by decide +kernel
theorem dX6_store_22 : decode cX6_store 22 = .ok (.aload_n 0, 1) := by decide +kernel
theorem dX6_store_23 : decode cX6_store 23 = .ok (.getfield 16, 3) := by decide +kernel
theorem dX6_store_26 : decode cX6_store 26 = .ok (.iload_n 1, 1) := by decide +kernel
theorem dX6_store_27 : decode cX6_store 27 = .ok (.iaload, 1) := by decide +kernel
theorem dX6_store_28 : decode cX6_store 28 = .ok (.iconst 1, 1) := by decide +kernel
theorem dX6_store_29 : decode cX6_store 29 = .ok (.if_icmp .ne 16, 3) := by decide +kernel
theorem dX6_store_32 : decode cX6_store 32 = .ok (.aload_n 0, 1) := by decide +kernel
theorem dX6_store_33 : decode cX6_store 33 = .ok (.getfield 13, 3) := by decide +kernel
theorem dX6_store_36 : decode cX6_store 36 = .ok (.iload_n 1, 1) := by decide +kernel
theorem dX6_store_37 : decode cX6_store 37 = .ok (.aaload, 1) := by decide +kernel
theorem dX6_store_38 : decode cX6_store 38 = .ok (.iload_n 2, 1) := by decide +kernel
theorem dX6_store_39 : decode cX6_store 39 = .ok (.iload_n 3, 1) := by decide +kernel
theorem dX6_store_40 : decode cX6_store 40 = .ok (.i2s, 1) := by decide +kernel
theorem dX6_store_41 : decode cX6_store 41 = .ok (.iastore, 1) := by decide +kernel
theorem dX6_store_42 : decode cX6_store 42 = .ok (.goto 12, 3) := by decide +kernel
theorem dX6_store_45 : decode cX6_store 45 = .ok (.aload_n 0, 1) := by decide +kernel
theorem dX6_store_46 : decode cX6_store 46 = .ok (.getfield 13, 3) := by decide +kernel
theorem dX6_store_49 : decode cX6_store 49 = .ok (.iload_n 1, 1) := by decide +kernel
theorem dX6_store_50 : decode cX6_store 50 = .ok (.aaload, 1) := by decide +kernel
theorem dX6_store_51 : decode cX6_store 51 = .ok (.iload_n 2, 1) := by decide +kernel
theorem dX6_store_52 : decode cX6_store 52 = .ok (.iload_n 3, 1) := by decide +kernel
theorem dX6_store_53 : decode cX6_store 53 = .ok (.iastore, 1) := by decide +kernel
theorem dX6_store_54 : decode cX6_store 54 = .ok (.return_, 1) := by decide +kernel
theorem dX7_init_0 : decode cX7_init 0 = .ok (.aload_n 0, 1) := by decide +kernel
theorem dX7_init_1 : decode cX7_init 1 = .ok (.invokespecial 1, 3) := by decide +kernel
theorem dX7_init_4 : decode cX7_init 4 = .ok (.aload_n 0, 1) := by decide +kernel
theorem dX7_init_5 : decode cX7_init 5 = .ok (.bipush 10, 2) := by decide +kernel
theorem dX7_init_7 : decode cX7_init 7 = .ok (.newarray .int, 2) := by decide +kernel
theorem dX7_init_9 : decode cX7_init 9 = .ok (.putfield 9, 3) := by decide +kernel
theorem dX7_init_12 : decode cX7_init 12 = .ok (.aload_n 0, 1) := by decide +kernel
theorem dX7_init_13 : decode cX7_init 13 = .ok (.bipush 10, 2) := by decide +kernel
theorem dX7_init_15 : decode cX7_init 15 = .ok (.newarray .int, 2) := by decide +kernel
theorem dX7_init_17 : decode cX7_init 17 = .ok (.putfield 13, 3) := by decide +kernel
theorem dX7_init_20 : decode cX7_init 20 = .ok (.aload_n 0, 1) := by decide +kernel
theorem dX7_init_21 : decode cX7_init 21 = .ok (.bipush 10, 2) := by decide +kernel
theorem dX7_init_23 : decode cX7_init 23 = .ok (.newarray .int, 2) := by decide +kernel
theorem dX7_init_25 : decode cX7_init 25 = .ok (.putfield 16, 3) := by decide +kernel
theorem dX7_init_28 : decode cX7_init 28 = .ok (.aload_n 0, 1) := by decide +kernel
theorem dX7_init_29 : decode cX7_init 29 = .ok (.bipush 10, 2) := by decide +kernel
theorem dX7_init_31 : decode cX7_init 31 = .ok (.newarray .int, 2) := by decide +kernel
theorem dX7_init_33 : decode cX7_init 33 = .ok (.putfield 19, 3) := by decide +kernel
theorem dX7_init_36 : decode cX7_init 36 = .ok (.return_, 1) := by decide +kernel
theorem dX7_isFull_0 : decode cX7_isFull 0 = .ok (.aload_n 0, 1) := by decide +kernel
theorem dX7_isFull_1 : decode cX7_isFull 1 = .ok (.getfield 22, 3) := by decide +kernel
theorem dX7_isFull_4 : decode cX7_isFull 4 = .ok (.bipush 10, 2) := by decide +kernel
theorem dX7_isFull_6 : decode cX7_isFull 6 = .ok (.if_icmp .lt 7, 3) := by decide +kernel
theorem dX7_isFull_9 : decode cX7_isFull 9 = .ok (.iconst 1, 1) := by decide +kernel
theorem dX7_isFull_10 : decode cX7_isFull 10 = .ok (.goto 4, 3) := by decide +kernel
theorem dX7_isFull_13 : decode cX7_isFull 13 = .ok (.iconst 0, 1) := by decide +kernel
theorem dX7_isFull_14 : decode cX7_isFull 14 = .ok (.ireturn, 1) := by decide +kernel
theorem dX7_add_0 : decode cX7_add 0 = .ok (.aload_n 0, 1) := by decide +kernel
theorem dX7_add_1 : decode cX7_add 1 = .ok (.getfield 22, 3) := by decide +kernel
theorem dX7_add_4 : decode cX7_add 4 = .ok (.istore 4, 2) := by decide +kernel
theorem dX7_add_6 : decode cX7_add 6 = .ok (.iload 4, 2) := by decide +kernel
theorem dX7_add_8 : decode cX7_add 8 = .ok (.bipush 10, 2) := by decide +kernel
theorem dX7_add_10 : decode cX7_add 10 = .ok (.if_icmp .ge 48, 3) := by decide +kernel
theorem dX7_add_13 : decode cX7_add 13 = .ok (.aload_n 0, 1) := by decide +kernel
theorem dX7_add_14 : decode cX7_add 14 = .ok (.getfield 9, 3) := by decide +kernel
theorem dX7_add_17 : decode cX7_add 17 = .ok (.iload 4, 2) := by decide +kernel
theorem dX7_add_19 : decode cX7_add 19 = .ok (.iload_n 1, 1) := by decide +kernel
theorem dX7_add_20 : decode cX7_add 20 = .ok (.iastore, 1) := by decide +kernel
theorem dX7_add_21 : decode cX7_add 21 = .ok (.aload_n 0, 1) := by decide +kernel
theorem dX7_add_22 : decode cX7_add 22 = .ok (.getfield 13, 3) := by decide +kernel
theorem dX7_add_25 : decode cX7_add 25 = .ok (.iload 4, 2) := by decide +kernel
theorem dX7_add_27 : decode cX7_add 27 = .ok (.iload_n 2, 1) := by decide +kernel
theorem dX7_add_28 : decode cX7_add 28 = .ok (.iastore, 1) := by decide +kernel
theorem dX7_add_29 : decode cX7_add 29 = .ok (.aload_n 0, 1) := by decide +kernel
theorem dX7_add_30 : decode cX7_add 30 = .ok (.getfield 16, 3) := by decide +kernel
theorem dX7_add_33 : decode cX7_add 33 = .ok (.iload 4, 2) := by decide +kernel
theorem dX7_add_35 : decode cX7_add 35 = .ok (.iload_n 3, 1) := by decide +kernel
theorem dX7_add_36 : decode cX7_add 36 = .ok (.iastore, 1) := by decide +kernel
theorem dX7_add_37 : decode cX7_add 37 = .ok (.aload_n 0, 1) := by decide +kernel
theorem dX7_add_38 : decode cX7_add 38 = .ok (.dup, 1) := by decide +kernel
theorem dX7_add_39 : decode cX7_add 39 = .ok (.getfield 22, 3) := by decide +kernel
theorem dX7_add_42 : decode cX7_add 42 = .ok (.iconst 1, 1) := by decide +kernel
theorem dX7_add_43 : decode cX7_add 43 = .ok (.iadd, 1) := by decide +kernel
theorem dX7_add_44 : decode cX7_add 44 = .ok (.putfield 22, 3) := by decide +kernel
theorem dX7_add_47 : decode cX7_add 47 = .ok (.aload_n 0, 1) := by decide +kernel
theorem dX7_add_48 : decode cX7_add 48 = .ok (.iconst 1, 1) := by decide +kernel
theorem dX7_add_49 : decode cX7_add 49 = .ok (.putfield 26, 3) := by decide +kernel
theorem dX7_add_52 : decode cX7_add 52 = .ok (.aload_n 0, 1) := by decide +kernel
theorem dX7_add_53 : decode cX7_add 53 = .ok (.iload 4, 2) := by decide +kernel
theorem dX7_add_55 : decode cX7_add 55 = .ok (.invokevirtual 30, 3) := by decide +kernel
theorem dX7_add_58 : decode cX7_add 58 = .ok (.iload 4, 2) := by decide +kernel
theorem dX7_add_60 : decode cX7_add 60 = .ok (.ireturn, 1) := by decide +kernel
theorem dX7_meetFoes_0 : decode cX7_meetFoes 0 = .ok (.aload_n 0, 1) := by decide +kernel
theorem dX7_meetFoes_1 : decode cX7_meetFoes 1 = .ok (.getfield 19, 3) := by decide +kernel
theorem dX7_meetFoes_4 : decode cX7_meetFoes 4 = .ok (.iload_n 1, 1) := by decide +kernel
theorem dX7_meetFoes_5 : decode cX7_meetFoes 5 = .ok (.iconst 0, 1) := by decide +kernel
theorem dX7_meetFoes_6 : decode cX7_meetFoes 6 = .ok (.iastore, 1) := by decide +kernel
theorem dX7_meetFoes_7 : decode cX7_meetFoes 7 = .ok (.iconst 0, 1) := by decide +kernel
theorem dX7_meetFoes_8 : decode cX7_meetFoes 8 = .ok (.istore_n 2, 1) := by decide +kernel
theorem dX7_meetFoes_9 : decode cX7_meetFoes 9 = .ok (.iload_n 2, 1) := by decide +kernel
theorem dX7_meetFoes_10 : decode cX7_meetFoes 10 = .ok (.iload_n 1, 1) := by decide +kernel
theorem dX7_meetFoes_11 : decode cX7_meetFoes 11 = .ok (.if_icmp .ge 42, 3) := by decide +kernel
theorem dX7_meetFoes_14 : decode cX7_meetFoes 14 = .ok (.aload_n 0, 1) := by decide +kernel
theorem dX7_meetFoes_15 : decode cX7_meetFoes 15 = .ok (.iload_n 2, 1) := by decide +kernel
theorem dX7_meetFoes_16 : decode cX7_meetFoes 16 = .ok (.iload_n 1, 1) := by decide +kernel
end
section
theorem dX7_meetFoes_17 : decode cX7_meetFoes 17 = .ok (.invokevirtual 34, 3) := by decide +kernel
theorem dX7_meetFoes_20 : decode cX7_meetFoes 20 = .ok (.ifCond .eq 27, 3) := by decide +kernel
theorem dX7_meetFoes_23 : decode cX7_meetFoes 23 = .ok (.aload_n 0, 1) := by decide +kernel
theorem dX7_meetFoes_24 : decode cX7_meetFoes 24 = .ok (.getfield 19, 3) := by decide +kernel
theorem dX7_meetFoes_27 : decode cX7_meetFoes 27 = .ok (.iload_n 2, 1) := by decide +kernel
theorem dX7_meetFoes_28 : decode cX7_meetFoes 28 = .ok (.dup2, 1) := by decide +kernel
theorem dX7_meetFoes_29 : decode cX7_meetFoes 29 = .ok (.iaload, 1) := by decide +kernel
theorem dX7_meetFoes_30 : decode cX7_meetFoes 30 = .ok (.iconst 1, 1) := by decide +kernel
theorem dX7_meetFoes_31 : decode cX7_meetFoes 31 = .ok (.iload_n 1, 1) := by decide +kernel
theorem dX7_meetFoes_32 : decode cX7_meetFoes 32 = .ok (.ishl, 1) := by decide +kernel
theorem dX7_meetFoes_33 : decode cX7_meetFoes 33 = .ok (.ior, 1) := by decide +kernel
theorem dX7_meetFoes_34 : decode cX7_meetFoes 34 = .ok (.iastore, 1) := by decide +kernel
theorem dX7_meetFoes_35 : decode cX7_meetFoes 35 = .ok (.aload_n 0, 1) := by decide +kernel
theorem dX7_meetFoes_36 : decode cX7_meetFoes 36 = .ok (.getfield 19, 3) := by decide +kernel
theorem dX7_meetFoes_39 : decode cX7_meetFoes 39 = .ok (.iload_n 1, 1) := by decide +kernel
theorem dX7_meetFoes_40 : decode cX7_meetFoes 40 = .ok (.dup2, 1) := by decide +kernel
theorem dX7_meetFoes_41 : decode cX7_meetFoes 41 = .ok (.iaload, 1) := by decide +kernel
theorem dX7_meetFoes_42 : decode cX7_meetFoes 42 = .ok (.iconst 1, 1) := by decide +kernel
theorem dX7_meetFoes_43 : decode cX7_meetFoes 43 = .ok (.iload_n 2, 1) := by decide +kernel
theorem dX7_meetFoes_44 : decode cX7_meetFoes 44 = .ok (.ishl, 1) := by decide +kernel
theorem dX7_meetFoes_45 : decode cX7_meetFoes 45 = .ok (.ior, 1) := by decide +kernel
theorem dX7_meetFoes_46 : decode cX7_meetFoes 46 = .ok (.iastore, 1) := by decide +kernel
theorem dX7_meetFoes_47 : decode cX7_meetFoes 47 = .ok (.iinc 2 1, 3) := by decide +kernel
theorem dX7_meetFoes_50 : decode cX7_meetFoes 50 = .ok (.goto (-41), 3) := by decide +kernel
theorem dX7_meetFoes_53 : decode cX7_meetFoes 53 = .ok (.return_, 1) := by decide +kernel
theorem dX7_clear_0 : decode cX7_clear 0 = .ok (.aload_n 0, 1) := by decide +kernel
theorem dX7_clear_1 : decode cX7_clear 1 = .ok (.getfield 22, 3) := by decide +kernel
theorem dX7_clear_4 : decode cX7_clear 4 = .ok (.istore_n 1, 1) := by decide +kernel
theorem dX7_clear_5 : decode cX7_clear 5 = .ok (.aload_n 0, 1) := by decide +kernel
theorem dX7_clear_6 : decode cX7_clear 6 = .ok (.iconst 0, 1) := by decide +kernel
theorem dX7_clear_7 : decode cX7_clear 7 = .ok (.putfield 22, 3) := by decide +kernel
theorem dX7_clear_10 : decode cX7_clear 10 = .ok (.aload_n 0, 1) := by decide +kernel
theorem dX7_clear_11 : decode cX7_clear 11 = .ok (.iconst 1, 1) := by decide +kernel
theorem dX7_clear_12 : decode cX7_clear 12 = .ok (.putfield 26, 3) := by decide +kernel
theorem dX7_clear_15 : decode cX7_clear 15 = .ok (.iload_n 1, 1) := by decide +kernel
theorem dX7_clear_16 : decode cX7_clear 16 = .ok (.ireturn, 1) := by decide +kernel
theorem dX7_clash_0 : decode cX7_clash 0 = .ok (.aload_n 0, 1) := by decide +kernel
theorem dX7_clash_1 : decode cX7_clash 1 = .ok (.getfield 9, 3) := by decide +kernel
theorem dX7_clash_4 : decode cX7_clash 4 = .ok (.iload_n 1, 1) := by decide +kernel
theorem dX7_clash_5 : decode cX7_clash 5 = .ok (.iaload, 1) := by decide +kernel
theorem dX7_clash_6 : decode cX7_clash 6 = .ok (.aload_n 0, 1) := by decide +kernel
theorem dX7_clash_7 : decode cX7_clash 7 = .ok (.getfield 9, 3) := by decide +kernel
theorem dX7_clash_10 : decode cX7_clash 10 = .ok (.iload_n 2, 1) := by decide +kernel
theorem dX7_clash_11 : decode cX7_clash 11 = .ok (.iaload, 1) := by decide +kernel
theorem dX7_clash_12 : decode cX7_clash 12 = .ok (.if_icmp .eq 5, 3) := by decide +kernel
theorem dX7_clash_15 : decode cX7_clash 15 = .ok (.iconst 0, 1) := by decide +kernel
theorem dX7_clash_16 : decode cX7_clash 16 = .ok (.ireturn, 1) := by decide +kernel
theorem dX7_clash_17 : decode cX7_clash 17 = .ok (.aload_n 0, 1) := by decide +kernel
theorem dX7_clash_18 : decode cX7_clash 18 = .ok (.getfield 16, 3) := by decide +kernel
theorem dX7_clash_21 : decode cX7_clash 21 = .ok (.iload_n 1, 1) := by decide +kernel
theorem dX7_clash_22 : decode cX7_clash 22 = .ok (.iaload, 1) := by decide +kernel
theorem dX7_clash_23 : decode cX7_clash 23 = .ok (.aload_n 0, 1) := by decide +kernel
theorem dX7_clash_24 : decode cX7_clash 24 = .ok (.getfield 16, 3) := by decide +kernel
theorem dX7_clash_27 : decode cX7_clash 27 = .ok (.iload_n 2, 1) := by decide +kernel
theorem dX7_clash_28 : decode cX7_clash 28 = .ok (.iaload, 1) := by decide +kernel
theorem dX7_clash_29 : decode cX7_clash 29 = .ok (.isub, 1) := by decide +kernel
theorem dX7_clash_30 : decode cX7_clash 30 = .ok (.invokestatic 38, 3) := by decide +kernel
theorem dX7_clash_33 : decode cX7_clash 33 = .ok (.istore_n 3, 1) := by decide +kernel
theorem dX7_clash_34 : decode cX7_clash 34 = .ok (.aload_n 0, 1) := by decide +kernel
theorem dX7_clash_35 : decode cX7_clash 35 = .ok (.getfield 13, 3) := by decide +kernel
theorem dX7_clash_38 : decode cX7_clash 38 = .ok (.iload_n 1, 1) := by decide +kernel
theorem dX7_clash_39 : decode cX7_clash 39 = .ok (.iaload, 1) := by decide +kernel
theorem dX7_clash_40 : decode cX7_clash 40 = .ok (.aload_n 0, 1) := by decide +kernel
theorem dX7_clash_41 : decode cX7_clash 41 = .ok (.getfield 13, 3) := by decide +kernel
theorem dX7_clash_44 : decode cX7_clash 44 = .ok (.iload_n 2, 1) := by decide +kernel
theorem dX7_clash_45 : decode cX7_clash 45 = .ok (.iaload, 1) := by decide +kernel
theorem dX7_clash_46 : decode cX7_clash 46 = .ok (.isub, 1) := by decide +kernel
theorem dX7_clash_47 : decode cX7_clash 47 = .ok (.invokestatic 38, 3) := by decide +kernel
theorem dX7_clash_50 : decode cX7_clash 50 = .ok (.istore 4, 2) := by decide +kernel
theorem dX7_clash_52 : decode cX7_clash 52 = .ok (.iload_n 3, 1) := by decide +kernel
theorem dX7_clash_53 : decode cX7_clash 53 = .ok (.ifCond .ne 8, 3) := by decide +kernel
theorem dX7_clash_56 : decode cX7_clash 56 = .ok (.iload 4, 2) := by decide +kernel
theorem dX7_clash_58 : decode cX7_clash 58 = .ok (.ifCond .gt 14, 3) := by decide +kernel
theorem dX7_clash_61 : decode cX7_clash 61 = .ok (.iload_n 3, 1) := by decide +kernel
theorem dX7_clash_62 : decode cX7_clash 62 = .ok (.iconst 1, 1) := by decide +kernel
theorem dX7_clash_63 : decode cX7_clash 63 = .ok (.if_icmp .ne 13, 3) := by decide +kernel
theorem dX7_clash_66 : decode cX7_clash 66 = .ok (.iload 4, 2) := by decide +kernel
theorem dX7_clash_68 : decode cX7_clash 68 = .ok (.iconst 2, 1) := by decide +kernel
theorem dX7_clash_69 : decode cX7_clash 69 = .ok (.if_icmp .le 7, 3) := by decide +kernel
theorem dX7_clash_72 : decode cX7_clash 72 = .ok (.iconst 1, 1) := by decide +kernel
theorem dX7_clash_73 : decode cX7_clash 73 = .ok (.goto 4, 3) := by decide +kernel
theorem dX7_clash_76 : decode cX7_clash 76 = .ok (.iconst 0, 1) := by decide +kernel
theorem dX7_clash_77 : decode cX7_clash 77 = .ok (.ireturn, 1) := by decide +kernel
theorem dX7_fewestFalse_0 : decode cX7_fewestFalse 0 = .ok (.aload_n 0, 1) := by decide +kernel
theorem dX7_fewestFalse_1 : decode cX7_fewestFalse 1 = .ok (.getfield 26, 3) := by decide +kernel
theorem dX7_fewestFalse_4 : decode cX7_fewestFalse 4 = .ok (.ifCond .eq 16, 3) := by decide +kernel
theorem dX7_fewestFalse_7 : decode cX7_fewestFalse 7 = .ok (.aload_n 0, 1) := by decide +kernel
theorem dX7_fewestFalse_8 : decode cX7_fewestFalse 8 = .ok (.aload_n 0, 1) := by decide +kernel
theorem dX7_fewestFalse_9 : decode cX7_fewestFalse 9 = .ok (.invokevirtual 44, 3) := by decide +kernel
theorem dX7_fewestFalse_12 : decode cX7_fewestFalse 12 = .ok (.putfield 48, 3) := by decide +kernel
theorem dX7_fewestFalse_15 : decode cX7_fewestFalse 15 = .ok (.aload_n 0, 1) := by decide +kernel
theorem dX7_fewestFalse_16 : decode cX7_fewestFalse 16 = .ok (.iconst 0, 1) := by decide +kernel
theorem dX7_fewestFalse_17 : decode cX7_fewestFalse 17 = .ok (.putfield 26, 3) := by decide +kernel
theorem dX7_fewestFalse_20 : decode cX7_fewestFalse 20 = .ok (.aload_n 0, 1) := by decide +kernel
theorem dX7_fewestFalse_21 : decode cX7_fewestFalse 21 = .ok (.getfield 48, 3) := by decide +kernel
theorem dX7_fewestFalse_24 : decode cX7_fewestFalse 24 = .ok (.ireturn, 1) := by decide +kernel
theorem dX7_searchFewest_0 : decode cX7_searchFewest 0 = .ok (.iconst 1, 1) := by decide +kernel
theorem dX7_searchFewest_1 : decode cX7_searchFewest 1 = .ok (.aload_n 0, 1) := by decide +kernel
theorem dX7_searchFewest_2 : decode cX7_searchFewest 2 = .ok (.getfield 22, 3) := by decide +kernel
theorem dX7_searchFewest_5 : decode cX7_searchFewest 5 = .ok (.ishl, 1) := by decide +kernel
theorem dX7_searchFewest_6 : decode cX7_searchFewest 6 = .ok (.iconst 1, 1) := by decide +kernel
theorem dX7_searchFewest_7 : decode cX7_searchFewest 7 = .ok (.isub, 1) := by decide +kernel
theorem dX7_searchFewest_8 : decode cX7_searchFewest 8 = .ok (.istore_n 1, 1) := by decide +kernel
theorem dX7_searchFewest_9 : decode cX7_searchFewest 9 = .ok (.iload_n 1, 1) := by decide +kernel
theorem dX7_searchFewest_10 : decode cX7_searchFewest 10 = .ok (.istore_n 2, 1) := by decide +kernel
theorem dX7_searchFewest_11 : decode cX7_searchFewest 11 = .ok (.aload_n 0, 1) := by decide +kernel
theorem dX7_searchFewest_12 : decode cX7_searchFewest 12 = .ok (.getfield 22, 3) := by decide +kernel
theorem dX7_searchFewest_15 : decode cX7_searchFewest 15 = .ok (.istore_n 3, 1) := by decide +kernel
theorem dX7_searchFewest_16 : decode cX7_searchFewest 16 = .ok (.iconst 0, 1) := by decide +kernel
theorem dX7_searchFewest_17 : decode cX7_searchFewest 17 = .ok (.istore 4, 2) := by decide +kernel
theorem dX7_searchFewest_19 : decode cX7_searchFewest 19 = .ok (.iload 4, 2) := by decide +kernel
theorem dX7_searchFewest_21 : decode cX7_searchFewest 21 = .ok (.iload_n 1, 1) := by decide +kernel
theorem dX7_searchFewest_22 : decode cX7_searchFewest 22 = .ok (.if_icmp .ge 41, 3) := by decide +kernel
theorem dX7_searchFewest_25 : decode cX7_searchFewest 25 = .ok (.iload 4, 2) := by decide +kernel
theorem dX7_searchFewest_27 : decode cX7_searchFewest 27 = .ok (.invokestatic 51, 3) := by decide +kernel
theorem dX7_searchFewest_30 : decode cX7_searchFewest 30 = .ok (.istore 5, 2) := by decide +kernel
theorem dX7_searchFewest_32 : decode cX7_searchFewest 32 = .ok (.iload 5, 2) := by decide +kernel
theorem dX7_searchFewest_34 : decode cX7_searchFewest 34 = .ok (.iload_n 3, 1) := by decide +kernel
theorem dX7_searchFewest_35 : decode cX7_searchFewest 35 = .ok (.if_icmp .ge 22, 3) := by decide +kernel
theorem dX7_searchFewest_38 : decode cX7_searchFewest 38 = .ok (.aload_n 0, 1) := by decide +kernel
theorem dX7_searchFewest_39 : decode cX7_searchFewest 39 = .ok (.iload_n 1, 1) := by decide +kernel
theorem dX7_searchFewest_40 : decode cX7_searchFewest 40 = .ok (.iload 4, 2) := by decide +kernel
theorem dX7_searchFewest_42 : decode cX7_searchFewest 42 = .ok (.iconst (-1), 1) := by decide +kernel
theorem dX7_searchFewest_43 : decode cX7_searchFewest 43 = .ok (.ixor, 1) := by decide +kernel
theorem dX7_searchFewest_44 : decode cX7_searchFewest 44 = .ok (.iand, 1) := by decide +kernel
theorem dX7_searchFewest_45 : decode cX7_searchFewest 45 = .ok (.invokevirtual 56, 3) := by decide +kernel
theorem dX7_searchFewest_48 : decode cX7_searchFewest 48 = .ok (.ifCond .eq 9, 3) := by decide +kernel
theorem dX7_searchFewest_51 : decode cX7_searchFewest 51 = .ok (.iload 4, 2) := by decide +kernel
theorem dX7_searchFewest_53 : decode cX7_searchFewest 53 = .ok (.istore_n 2, 1) := by decide +kernel
theorem dX7_searchFewest_54 : decode cX7_searchFewest 54 = .ok (.iload 5, 2) := by decide +kernel
theorem dX7_searchFewest_56 : decode cX7_searchFewest 56 = .ok (.istore_n 3, 1) := by decide +kernel
theorem dX7_searchFewest_57 : decode cX7_searchFewest 57 = .ok (.iinc 4 1, 3) := by decide +kernel
theorem dX7_searchFewest_60 : decode cX7_searchFewest 60 = .ok (.goto (-41), 3) := by decide +kernel
theorem dX7_searchFewest_63 : decode cX7_searchFewest 63 = .ok (.iload_n 2, 1) := by decide +kernel
theorem dX7_searchFewest_64 : decode cX7_searchFewest 64 = .ok (.ireturn, 1) := by decide +kernel
theorem dX7_isPeaceful_0 : decode cX7_isPeaceful 0 = .ok (.iconst 0, 1) := by decide +kernel
theorem dX7_isPeaceful_1 : decode cX7_isPeaceful 1 = .ok (.istore_n 2, 1) := by decide +kernel
theorem dX7_isPeaceful_2 : decode cX7_isPeaceful 2 = .ok (.iload_n 2, 1) := by decide +kernel
theorem dX7_isPeaceful_3 : decode cX7_isPeaceful 3 = .ok (.aload_n 0, 1) := by decide +kernel
theorem dX7_isPeaceful_4 : decode cX7_isPeaceful 4 = .ok (.getfield 22, 3) := by decide +kernel
theorem dX7_isPeaceful_7 : decode cX7_isPeaceful 7 = .ok (.if_icmp .ge 30, 3) := by decide +kernel
theorem dX7_isPeaceful_10 : decode cX7_isPeaceful 10 = .ok (.iload_n 1, 1) := by decide +kernel
theorem dX7_isPeaceful_11 : decode cX7_isPeaceful 11 = .ok (.iload_n 2, 1) := by decide +kernel
theorem dX7_isPeaceful_12 : decode cX7_isPeaceful 12 = .ok (.invokestatic 60, 3) := by decide +kernel
theorem dX7_isPeaceful_15 : decode cX7_isPeaceful 15 = .ok (.ifCond .eq 16, 3) := by decide +kernel
theorem dX7_isPeaceful_18 : decode cX7_isPeaceful 18 = .ok (.aload_n 0, 1) := by decide +kernel
theorem dX7_isPeaceful_19 : decode cX7_isPeaceful 19 = .ok (.getfield 19, 3) := by decide +kernel
theorem dX7_isPeaceful_22 : decode cX7_isPeaceful 22 = .ok (.iload_n 2, 1) := by decide +kernel
theorem dX7_isPeaceful_23 : decode cX7_isPeaceful 23 = .ok (.iaload, 1) := by decide +kernel
theorem dX7_isPeaceful_24 : decode cX7_isPeaceful 24 = .ok (.iload_n 1, 1) := by decide +kernel
theorem dX7_isPeaceful_25 : decode cX7_isPeaceful 25 = .ok (.iand, 1) := by decide +kernel
theorem dX7_isPeaceful_26 : decode cX7_isPeaceful 26 = .ok (.ifCond .eq 5, 3) := by decide +kernel
theorem dX7_isPeaceful_29 : decode cX7_isPeaceful 29 = .ok (.iconst 0, 1) := by decide +kernel
theorem dX7_isPeaceful_30 : decode cX7_isPeaceful 30 = .ok (.ireturn, 1) := by decide +kernel
theorem dX7_isPeaceful_31 : decode cX7_isPeaceful 31 = .ok (.iinc 2 1, 3) := by decide +kernel
theorem dX7_isPeaceful_34 : decode cX7_isPeaceful 34 = .ok (.goto (-32), 3) := by decide +kernel
theorem dX7_isPeaceful_37 : decode cX7_isPeaceful 37 = .ok (.iconst 1, 1) := by decide +kernel
theorem dX7_isPeaceful_38 : decode cX7_isPeaceful 38 = .ok (.ireturn, 1) := by decide +kernel
theorem dX8_init_0 : decode cX8_init 0 = .ok (.aload_n 0, 1) := by decide +kernel
theorem dX8_init_1 : decode cX8_init 1 = .ok (.invokespecial 1, 3) := by decide +kernel
theorem dX8_init_4 : decode cX8_init 4 = .ok (.aload_n 0, 1) := by decide +kernel
theorem dX8_init_5 : decode cX8_init 5 = .ok (.new 7, 3) := by decide +kernel
theorem dX8_init_8 : decode cX8_init 8 = .ok (.dup, 1) := by decide +kernel
theorem dX8_init_9 : decode cX8_init 9 = .ok (.invokespecial 9, 3) := by decide +kernel
theorem dX8_init_12 : decode cX8_init 12 = .ok (.putfield 10, 3) := by decide +kernel
theorem dX8_init_15 : decode cX8_init 15 = .ok (.aload_n 0, 1) := by decide +kernel
theorem dX8_init_16 : decode cX8_init 16 = .ok (.aload_n 0, 1) := by decide +kernel
theorem dX8_init_17 : decode cX8_init 17 = .ok (.getfield 10, 3) := by decide +kernel
theorem dX8_init_20 : decode cX8_init 20 = .ok (.getfield 16, 3) := by decide +kernel
theorem dX8_init_23 : decode cX8_init 23 = .ok (.putfield 20, 3) := by decide +kernel
theorem dX8_init_26 : decode cX8_init 26 = .ok (.aload_n 0, 1) := by decide +kernel
theorem dX8_init_27 : decode cX8_init 27 = .ok (.aload_n 0, 1) := by decide +kernel
theorem dX8_init_28 : decode cX8_init 28 = .ok (.getfield 20, 3) := by decide +kernel
theorem dX8_init_31 : decode cX8_init 31 = .ok (.getfield 21, 3) := by decide +kernel
theorem dX8_init_34 : decode cX8_init 34 = .ok (.putfield 27, 3) := by decide +kernel
theorem dX8_init_37 : decode cX8_init 37 = .ok (.aload_n 0, 1) := by decide +kernel
theorem dX8_init_38 : decode cX8_init 38 = .ok (.aload_n 0, 1) := by decide +kernel
theorem dX8_init_39 : decode cX8_init 39 = .ok (.getfield 20, 3) := by decide +kernel
theorem dX8_init_42 : decode cX8_init 42 = .ok (.getfield 30, 3) := by decide +kernel
theorem dX8_init_45 : decode cX8_init 45 = .ok (.putfield 34, 3) := by decide +kernel
theorem dX8_init_48 : decode cX8_init 48 = .ok (.aload_n 0, 1) := by decide +kernel
theorem dX8_init_49 : decode cX8_init 49 = .ok (.aload_n 0, 1) := by decide +kernel
theorem dX8_init_50 : decode cX8_init 50 = .ok (.getfield 20, 3) := by decide +kernel
theorem dX8_init_53 : decode cX8_init 53 = .ok (.getfield 37, 3) := by decide +kernel
theorem dX8_init_56 : decode cX8_init 56 = .ok (.putfield 41, 3) := by decide +kernel
theorem dX8_init_59 : decode cX8_init 59 = .ok (.aload_n 0, 1) := by decide +kernel
theorem dX8_init_60 : decode cX8_init 60 = .ok (.new 42, 3) := by decide +kernel
theorem dX8_init_63 : decode cX8_init 63 = .ok (.dup, 1) := by decide +kernel
theorem dX8_init_64 : decode cX8_init 64 = .ok (.invokespecial 44, 3) := by decide +kernel
theorem dX8_init_67 : decode cX8_init 67 = .ok (.putfield 45, 3) := by decide +kernel
theorem dX8_init_70 : decode cX8_init 70 = .ok (.aload_n 0, 1) := by decide +kernel
theorem dX8_init_71 : decode cX8_init 71 = .ok (.new 49, 3) := by decide +kernel
theorem dX8_init_74 : decode cX8_init 74 = .ok (.dup, 1) := by decide +kernel
theorem dX8_init_75 : decode cX8_init 75 = .ok (.invokespecial 51, 3) := by decide +kernel
theorem dX8_init_78 : decode cX8_init 78 = .ok (.putfield 52, 3) := by decide +kernel
theorem dX8_init_81 : decode cX8_init 81 = .ok (.aload_n 0, 1) := by decide +kernel
theorem dX8_init_82 : decode cX8_init 82 = .ok (.new 56, 3) := by decide +kernel
theorem dX8_init_85 : decode cX8_init 85 = .ok (.dup, 1) := by decide +kernel
theorem dX8_init_86 : decode cX8_init 86 = .ok (.invokespecial 58, 3) := by decide +kernel
theorem dX8_init_89 : decode cX8_init 89 = .ok (.putfield 59, 3) := by decide +kernel
theorem dX8_init_92 : decode cX8_init 92 = .ok (.aload_n 0, 1) := by decide +kernel
theorem dX8_init_93 : decode cX8_init 93 = .ok (.bipush 8, 2) := by decide +kernel
theorem dX8_init_95 : decode cX8_init 95 = .ok (.newarray .int, 2) := by decide +kernel
theorem dX8_init_97 : decode cX8_init 97 = .ok (.putfield 63, 3) := by decide +kernel
theorem dX8_init_100 : decode cX8_init 100 = .ok (.aload_n 0, 1) := by decide +kernel
theorem dX8_init_101 : decode cX8_init 101 = .ok (.iconst 1, 1) := by decide +kernel
theorem dX8_init_102 : decode cX8_init 102 = .ok (.putfield 67, 3) := by decide +kernel
theorem dX8_init_105 : decode cX8_init 105 = .ok (.aload_n 0, 1) := by decide +kernel
theorem dX8_init_106 : decode cX8_init 106 = .ok (.iconst 1, 1) := by decide +kernel
theorem dX8_init_107 : decode cX8_init 107 = .ok (.putfield 71, 3) := by decide +kernel
theorem dX8_init_110 : decode cX8_init 110 = .ok (.return_, 1) := by decide +kernel
theorem dX8_type_0 : decode cX8_type 0 = .ok (.iload_n 1, 1) := by decide +kernel
theorem dX8_type_1 : decode cX8_type 1 = .ok (.iconst 1, 1) := by decide +kernel
theorem dX8_type_2 : decode cX8_type 2 = .ok (.invokestatic 74, 3) := by decide +kernel
theorem dX8_type_5 : decode cX8_type 5 = .ok (.ifCond .eq 13, 3) := by decide +kernel
theorem dX8_type_8 : decode cX8_type 8 = .ok (.iload_n 2, 1) := by decide +kernel
theorem dX8_type_9 : decode cX8_type 9 = .ok (.sipush 255, 3) := by decide +kernel
theorem dX8_type_12 : decode cX8_type 12 = .ok (.invokestatic 74, 3) := by decide +kernel
theorem dX8_type_15 : decode cX8_type 15 = .ok (.ifCond .ne 6, 3) := by decide +kernel
theorem dX8_type_18 : decode cX8_type 18 = .ok (.bipush (-2), 2) := by decide +kernel
theorem dX8_type_20 : decode cX8_type 20 = .ok (.ireturn, 1) := by decide +kernel
theorem dX8_type_21 : decode cX8_type 21 = .ok (.iload_n 1, 1) := by decide +kernel
theorem dX8_type_22 : decode cX8_type 22 = .ok (.ifCond .ne 18, 3) := by decide +kernel
theorem dX8_type_25 : decode cX8_type 25 = .ok (.aload_n 0, 1) := by decide +kernel
theorem dX8_type_26 : decode cX8_type 26 = .ok (.getfield 27, 3) := by decide +kernel
theorem dX8_type_29 : decode cX8_type 29 = .ok (.getfield 78, 3) := by decide +kernel
theorem dX8_type_32 : decode cX8_type 32 = .ok (.bipush 80, 2) := by decide +kernel
theorem dX8_type_34 : decode cX8_type 34 = .ok (.if_icmp .lt 21, 3) := by decide +kernel
theorem dX8_type_37 : decode cX8_type 37 = .ok (.goto 15, 3) := by decide +kernel
theorem dX8_type_40 : decode cX8_type 40 = .ok (.aload_n 0, 1) := by decide +kernel
theorem dX8_type_41 : decode cX8_type 41 = .ok (.getfield 34, 3) := by decide +kernel
theorem dX8_type_44 : decode cX8_type 44 = .ok (.getfield 84, 3) := by decide +kernel
theorem dX8_type_47 : decode cX8_type 47 = .ok (.bipush 40, 2) := by decide +kernel
theorem dX8_type_49 : decode cX8_type 49 = .ok (.if_icmp .lt 6, 3) := by decide +kernel
theorem dX8_type_52 : decode cX8_type 52 = .ok (.bipush (-4), 2) := by decide +kernel
theorem dX8_type_54 : decode cX8_type 54 = .ok (.ireturn, 1) := by decide +kernel
theorem dX8_type_55 : decode cX8_type 55 = .ok (.aload_n 0, 1) := by decide +kernel
theorem dX8_type_56 : decode cX8_type 56 = .ok (.invokevirtual 87, 3) := by decide +kernel
theorem dX8_type_59 : decode cX8_type 59 = .ok (.iload_n 1, 1) := by decide +kernel
theorem dX8_type_60 : decode cX8_type 60 = .ok (.ifCond .ne 14, 3) := by decide +kernel
theorem dX8_type_63 : decode cX8_type 63 = .ok (.aload_n 0, 1) := by decide +kernel
theorem dX8_type_64 : decode cX8_type 64 = .ok (.getfield 27, 3) := by decide +kernel
theorem dX8_type_67 : decode cX8_type 67 = .ok (.iload_n 2, 1) := by decide +kernel
theorem dX8_type_68 : decode cX8_type 68 = .ok (.invokevirtual 90, 3) := by decide +kernel
theorem dX8_type_71 : decode cX8_type 71 = .ok (.goto 11, 3) := by decide +kernel
theorem dX8_type_74 : decode cX8_type 74 = .ok (.aload_n 0, 1) := by decide +kernel
theorem dX8_type_75 : decode cX8_type 75 = .ok (.getfield 34, 3) := by decide +kernel
theorem dX8_type_78 : decode cX8_type 78 = .ok (.iload_n 2, 1) := by decide +kernel
theorem dX8_type_79 : decode cX8_type 79 = .ok (.invokevirtual 94, 3) := by decide +kernel
theorem dX8_type_82 : decode cX8_type 82 = .ok (.ireturn, 1) := by decide +kernel
theorem dX8_wipe_0 : decode cX8_wipe 0 = .ok (.iload_n 1, 1) := by decide +kernel
theorem dX8_wipe_1 : decode cX8_wipe 1 = .ok (.iconst 1, 1) := by decide +kernel
theorem dX8_wipe_2 : decode cX8_wipe 2 = .ok (.invokestatic 74, 3) := by decide +kernel
theorem dX8_wipe_5 : decode cX8_wipe 5 = .ok (.ifCond .ne 6, 3) := by decide +kernel
theorem dX8_wipe_8 : decode cX8_wipe 8 = .ok (.bipush (-2), 2) := by decide +kernel
theorem dX8_wipe_10 : decode cX8_wipe 10 = .ok (.ireturn, 1) := by decide +kernel
theorem dX8_wipe_11 : decode cX8_wipe 11 = .ok (.aload_n 0, 1) := by decide +kernel
theorem dX8_wipe_12 : decode cX8_wipe 12 = .ok (.invokevirtual 87, 3) := by decide +kernel
theorem dX8_wipe_15 : decode cX8_wipe 15 = .ok (.iload_n 1, 1) := by decide +kernel
theorem dX8_wipe_16 : decode cX8_wipe 16 = .ok (.ifCond .ne 13, 3) := by decide +kernel
theorem dX8_wipe_19 : decode cX8_wipe 19 = .ok (.aload_n 0, 1) := by decide +kernel
theorem dX8_wipe_20 : decode cX8_wipe 20 = .ok (.getfield 27, 3) := by decide +kernel
theorem dX8_wipe_23 : decode cX8_wipe 23 = .ok (.invokevirtual 95, 3) := by decide +kernel
theorem dX8_wipe_26 : decode cX8_wipe 26 = .ok (.goto 10, 3) := by decide +kernel
theorem dX8_wipe_29 : decode cX8_wipe 29 = .ok (.aload_n 0, 1) := by decide +kernel
theorem dX8_wipe_30 : decode cX8_wipe 30 = .ok (.getfield 34, 3) := by decide +kernel
theorem dX8_wipe_33 : decode cX8_wipe 33 = .ok (.invokevirtual 99, 3) := by decide +kernel
theorem dX8_wipe_36 : decode cX8_wipe 36 = .ok (.ireturn, 1) := by decide +kernel
theorem dX8_fault_0 : decode cX8_fault 0 = .ok (.iload_n 1, 1) := by decide +kernel
theorem dX8_fault_1 : decode cX8_fault 1 = .ok (.iconst 1, 1) := by decide +kernel
theorem dX8_fault_2 : decode cX8_fault 2 = .ok (.invokestatic 74, 3) := by decide +kernel
theorem dX8_fault_5 : decode cX8_fault 5 = .ok (.ifCond .ne 6, 3) := by decide +kernel
theorem dX8_fault_8 : decode cX8_fault 8 = .ok (.bipush (-2), 2) := by decide +kernel
theorem dX8_fault_10 : decode cX8_fault 10 = .ok (.ireturn, 1) := by decide +kernel
theorem dX8_fault_11 : decode cX8_fault 11 = .ok (.iload_n 1, 1) := by decide +kernel
theorem dX8_fault_12 : decode cX8_fault 12 = .ok (.ifCond .ne 13, 3) := by decide +kernel
theorem dX8_fault_15 : decode cX8_fault 15 = .ok (.aload_n 0, 1) := by decide +kernel
theorem dX8_fault_16 : decode cX8_fault 16 = .ok (.getfield 27, 3) := by decide +kernel
theorem dX8_fault_19 : decode cX8_fault 19 = .ok (.getfield 100, 3) := by decide +kernel
theorem dX8_fault_22 : decode cX8_fault 22 = .ok (.goto 10, 3) := by decide +kernel
theorem dX8_fault_25 : decode cX8_fault 25 = .ok (.aload_n 0, 1) := by decide +kernel
theorem dX8_fault_26 : decode cX8_fault 26 = .ok (.getfield 34, 3) := by decide +kernel
theorem dX8_fault_29 : decode cX8_fault 29 = .ok (.getfield 103, 3) := by decide +kernel
theorem dX8_fault_32 : decode cX8_fault 32 = .ok (.ireturn, 1) := by decide +kernel
theorem dX8_deed_0 : decode cX8_deed 0 = .ok (.aload_n 0, 1) := by decide +kernel
theorem dX8_deed_1 : decode cX8_deed 1 = .ok (.iload_n 1, 1) := by decide +kernel
theorem dX8_deed_2 : decode cX8_deed 2 = .ok (.invokevirtual 104, 3) := by decide +kernel
theorem dX8_deed_5 : decode cX8_deed 5 = .ok (.ifCond .eq 11, 3) := by decide +kernel
theorem dX8_deed_8 : decode cX8_deed 8 = .ok (.iload_n 2, 1) := by decide +kernel
theorem dX8_deed_9 : decode cX8_deed 9 = .ok (.iconst 4, 1) := by decide +kernel
theorem dX8_deed_10 : decode cX8_deed 10 = .ok (.invokestatic 74, 3) := by decide +kernel
theorem dX8_deed_13 : decode cX8_deed 13 = .ok (.ifCond .ne 6, 3) := by decide +kernel
theorem dX8_deed_16 : decode cX8_deed 16 = .ok (.bipush (-2), 2) := by decide +kernel
theorem dX8_deed_18 : decode cX8_deed 18 = .ok (.ireturn, 1) := by decide +kernel
theorem dX8_deed_19 : decode cX8_deed 19 = .ok (.iload_n 2, 1) := by decide +kernel
theorem dX8_deed_20 : decode cX8_deed 20 = .ok (.tableswitch 72 0 3 #[32, 42, 52, 62], 32) := by decide +kernel
theorem dX8_deed_52 : decode cX8_deed 52 = .ok (.aload_n 0, 1) := by decide +kernel
theorem dX8_deed_53 : decode cX8_deed 53 = .ok (.getfield 27, 3) := by decide +kernel
theorem dX8_deed_56 : decode cX8_deed 56 = .ok (.getfield 108, 3) := by decide +kernel
theorem dX8_deed_59 : decode cX8_deed 59 = .ok (.iload_n 1, 1) := by decide +kernel
theorem dX8_deed_60 : decode cX8_deed 60 = .ok (.iaload, 1) := by decide +kernel
theorem dX8_deed_61 : decode cX8_deed 61 = .ok (.ireturn, 1) := by decide +kernel
theorem dX8_deed_62 : decode cX8_deed 62 = .ok (.aload_n 0, 1) := by decide +kernel
theorem dX8_deed_63 : decode cX8_deed 63 = .ok (.getfield 27, 3) := by decide +kernel
theorem dX8_deed_66 : decode cX8_deed 66 = .ok (.getfield 111, 3) := by decide +kernel
theorem dX8_deed_69 : decode cX8_deed 69 = .ok (.iload_n 1, 1) := by decide +kernel
theorem dX8_deed_70 : decode cX8_deed 70 = .ok (.iaload, 1) := by decide +kernel
theorem dX8_deed_71 : decode cX8_deed 71 = .ok (.ireturn, 1) := by decide +kernel
theorem dX8_deed_72 : decode cX8_deed 72 = .ok (.aload_n 0, 1) := by decide +kernel
theorem dX8_deed_73 : decode cX8_deed 73 = .ok (.getfield 27, 3) := by decide +kernel
theorem dX8_deed_76 : decode cX8_deed 76 = .ok (.getfield 114, 3) := by decide +kernel
theorem dX8_deed_79 : decode cX8_deed 79 = .ok (.iload_n 1, 1) := by decide +kernel
theorem dX8_deed_80 : decode cX8_deed 80 = .ok (.iaload, 1) := by decide +kernel
theorem dX8_deed_81 : decode cX8_deed 81 = .ok (.ireturn, 1) := by decide +kernel
theorem dX8_deed_82 : decode cX8_deed 82 = .ok (.aload_n 0, 1) := by decide +kernel
theorem dX8_deed_83 : decode cX8_deed 83 = .ok (.getfield 27, 3) := by decide +kernel
theorem dX8_deed_86 : decode cX8_deed 86 = .ok (.getfield 117, 3) := by decide +kernel
theorem dX8_deed_89 : decode cX8_deed 89 = .ok (.iload_n 1, 1) := by decide +kernel
theorem dX8_deed_90 : decode cX8_deed 90 = .ok (.iaload, 1) := by decide +kernel
theorem dX8_deed_91 : decode cX8_deed 91 = .ok (.ireturn, 1) := by decide +kernel
theorem dX8_deed_92 : decode cX8_deed 92 = .ok (.aload_n 0, 1) := by decide +kernel
theorem dX8_deed_93 : decode cX8_deed 93 = .ok (.getfield 27, 3) := by decide +kernel
theorem dX8_deed_96 : decode cX8_deed 96 = .ok (.getfield 120, 3) := by decide +kernel
theorem dX8_deed_99 : decode cX8_deed 99 = .ok (.iload_n 1, 1) := by decide +kernel
theorem dX8_deed_100 : decode cX8_deed 100 = .ok (.iaload, 1) := by decide +kernel
theorem dX8_deed_101 : decode cX8_deed 101 = .ok (.ireturn, 1) := by decide +kernel
theorem dX8_rule_0 : decode cX8_rule 0 = .ok (.iload_n 1, 1) := by decide +kernel
theorem dX8_rule_1 : decode cX8_rule 1 = .ok (.iconst 3, 1) := by decide +kernel
theorem dX8_rule_2 : decode cX8_rule 2 = .ok (.invokestatic 74, 3) := by decide +kernel
theorem dX8_rule_5 : decode cX8_rule 5 = .ok (.ifCond .eq 11, 3) := by decide +kernel
theorem dX8_rule_8 : decode cX8_rule 8 = .ok (.iload_n 2, 1) := by decide +kernel
theorem dX8_rule_9 : decode cX8_rule 9 = .ok (.iconst 2, 1) := by decide +kernel
theorem dX8_rule_10 : decode cX8_rule 10 = .ok (.invokestatic 74, 3) := by decide +kernel
theorem dX8_rule_13 : decode cX8_rule 13 = .ok (.ifCond .ne 6, 3) := by decide +kernel
theorem dX8_rule_16 : decode cX8_rule 16 = .ok (.bipush (-2), 2) := by decide +kernel
theorem dX8_rule_18 : decode cX8_rule 18 = .ok (.ireturn, 1) := by decide +kernel
theorem dX8_rule_19 : decode cX8_rule 19 = .ok (.iload_n 2, 1) := by decide +kernel
theorem dX8_rule_20 : decode cX8_rule 20 = .ok (.ifCond .ne 12, 3) := by decide +kernel
theorem dX8_rule_23 : decode cX8_rule 23 = .ok (.aload_n 0, 1) := by decide +kernel
theorem dX8_rule_24 : decode cX8_rule 24 = .ok (.getfield 34, 3) := by decide +kernel
theorem dX8_rule_27 : decode cX8_rule 27 = .ok (.iload_n 1, 1) := by decide +kernel
theorem dX8_rule_28 : decode cX8_rule 28 = .ok (.invokevirtual 123, 3) := by decide +kernel
theorem dX8_rule_31 : decode cX8_rule 31 = .ok (.ireturn, 1) := by decide +kernel
theorem dX8_rule_32 : decode cX8_rule 32 = .ok (.iload_n 2, 1) := by decide +kernel
theorem dX8_rule_33 : decode cX8_rule 33 = .ok (.iconst 1, 1) := by decide +kernel
theorem dX8_rule_34 : decode cX8_rule 34 = .ok (.if_icmp .ne 14, 3) := by decide +kernel
theorem dX8_rule_37 : decode cX8_rule 37 = .ok (.aload_n 0, 1) := by decide +kernel
theorem dX8_rule_38 : decode cX8_rule 38 = .ok (.getfield 34, 3) := by decide +kernel
theorem dX8_rule_41 : decode cX8_rule 41 = .ok (.iload_n 1, 1) := by decide +kernel
theorem dX8_rule_42 : decode cX8_rule 42 = .ok (.invokevirtual 126, 3) := by decide +kernel
theorem dX8_rule_45 : decode cX8_rule 45 = .ok (.goto 11, 3) := by decide +kernel
theorem dX8_rule_48 : decode cX8_rule 48 = .ok (.aload_n 0, 1) := by decide +kernel
theorem dX8_rule_49 : decode cX8_rule 49 = .ok (.getfield 34, 3) := by decide +kernel
theorem dX8_rule_52 : decode cX8_rule 52 = .ok (.iload_n 1, 1) := by decide +kernel
theorem dX8_rule_53 : decode cX8_rule 53 = .ok (.invokevirtual 129, 3) := by decide +kernel
theorem dX8_rule_56 : decode cX8_rule 56 = .ok (.istore_n 3, 1) := by decide +kernel
theorem dX8_rule_57 : decode cX8_rule 57 = .ok (.iload_n 3, 1) := by decide +kernel
theorem dX8_rule_58 : decode cX8_rule 58 = .ok (.ifCond .eq 7, 3) := by decide +kernel
theorem dX8_rule_61 : decode cX8_rule 61 = .ok (.iconst 1, 1) := by decide +kernel
theorem dX8_rule_62 : decode cX8_rule 62 = .ok (.goto 4, 3) := by decide +kernel
theorem dX8_rule_65 : decode cX8_rule 65 = .ok (.iconst 0, 1) := by decide +kernel
theorem dX8_rule_66 : decode cX8_rule 66 = .ok (.ireturn, 1) := by decide +kernel
theorem dX8_person_0 : decode cX8_person 0 = .ok (.iload_n 1, 1) := by decide +kernel
theorem dX8_person_1 : decode cX8_person 1 = .ok (.bipush 7, 2) := by decide +kernel
theorem dX8_person_3 : decode cX8_person 3 = .ok (.invokestatic 74, 3) := by decide +kernel
theorem dX8_person_6 : decode cX8_person 6 = .ok (.ifCond .eq 23, 3) := by decide +kernel
theorem dX8_person_9 : decode cX8_person 9 = .ok (.iload_n 2, 1) := by decide +kernel
theorem dX8_person_10 : decode cX8_person 10 = .ok (.iconst 3, 1) := by decide +kernel
theorem dX8_person_11 : decode cX8_person 11 = .ok (.invokestatic 74, 3) := by decide +kernel
theorem dX8_person_14 : decode cX8_person 14 = .ok (.ifCond .eq 15, 3) := by decide +kernel
theorem dX8_person_17 : decode cX8_person 17 = .ok (.iload_n 3, 1) := by decide +kernel
theorem dX8_person_18 : decode cX8_person 18 = .ok (.getstatic 132, 3) := by decide +kernel
theorem dX8_person_21 : decode cX8_person 21 = .ok (.iload_n 2, 1) := by decide +kernel
theorem dX8_person_22 : decode cX8_person 22 = .ok (.iaload, 1) := by decide +kernel
theorem dX8_person_23 : decode cX8_person 23 = .ok (.invokestatic 74, 3) := by decide +kernel
theorem dX8_person_26 : decode cX8_person 26 = .ok (.ifCond .ne 6, 3) := by decide +kernel
theorem dX8_person_29 : decode cX8_person 29 = .ok (.bipush (-2), 2) := by decide +kernel
theorem dX8_person_31 : decode cX8_person 31 = .ok (.ireturn, 1) := by decide +kernel
theorem dX8_person_32 : decode cX8_person 32 = .ok (.aload_n 0, 1) := by decide +kernel
theorem dX8_person_33 : decode cX8_person 33 = .ok (.invokevirtual 87, 3) := by decide +kernel
theorem dX8_person_36 : decode cX8_person 36 = .ok (.aload_n 0, 1) := by decide +kernel
theorem dX8_person_37 : decode cX8_person 37 = .ok (.getfield 41, 3) := by decide +kernel
theorem dX8_person_40 : decode cX8_person 40 = .ok (.iload_n 1, 1) := by decide +kernel
theorem dX8_person_41 : decode cX8_person 41 = .ok (.iload_n 2, 1) := by decide +kernel
theorem dX8_person_42 : decode cX8_person 42 = .ok (.iload_n 3, 1) := by decide +kernel
theorem dX8_person_43 : decode cX8_person 43 = .ok (.invokevirtual 137, 3) := by decide +kernel
theorem dX8_person_46 : decode cX8_person 46 = .ok (.ireturn, 1) := by decide +kernel
theorem dX8_weather_0 : decode cX8_weather 0 = .ok (.iload_n 1, 1) := by decide +kernel
theorem dX8_weather_1 : decode cX8_weather 1 = .ok (.bipush 7, 2) := by decide +kernel
theorem dX8_weather_3 : decode cX8_weather 3 = .ok (.invokestatic 74, 3) := by decide +kernel
theorem dX8_weather_6 : decode cX8_weather 6 = .ok (.ifCond .eq 11, 3) := by decide +kernel
theorem dX8_weather_9 : decode cX8_weather 9 = .ok (.iload_n 2, 1) := by decide +kernel
theorem dX8_weather_10 : decode cX8_weather 10 = .ok (.iconst 1, 1) := by decide +kernel
theorem dX8_weather_11 : decode cX8_weather 11 = .ok (.invokestatic 74, 3) := by decide +kernel
theorem dX8_weather_14 : decode cX8_weather 14 = .ok (.ifCond .ne 6, 3) := by decide +kernel
theorem dX8_weather_17 : decode cX8_weather 17 = .ok (.bipush (-2), 2) := by decide +kernel
theorem dX8_weather_19 : decode cX8_weather 19 = .ok (.ireturn, 1) := by decide +kernel
theorem dX8_weather_20 : decode cX8_weather 20 = .ok (.aload_n 0, 1) := by decide +kernel
theorem dX8_weather_21 : decode cX8_weather 21 = .ok (.invokevirtual 87, 3) := by decide +kernel
theorem dX8_weather_24 : decode cX8_weather 24 = .ok (.aload_n 0, 1) := by decide +kernel
theorem dX8_weather_25 : decode cX8_weather 25 = .ok (.getfield 41, 3) := by decide +kernel
theorem dX8_weather_28 : decode cX8_weather 28 = .ok (.iload_n 1, 1) := by decide +kernel
theorem dX8_weather_29 : decode cX8_weather 29 = .ok (.iload_n 2, 1) := by decide +kernel
theorem dX8_weather_30 : decode cX8_weather 30 = .ok (.invokevirtual 141, 3) := by decide +kernel
theorem dX8_weather_33 : decode cX8_weather 33 = .ok (.ireturn, 1) := by decide +kernel
theorem dX8_set_0 : decode cX8_set 0 = .ok (.iload_n 1, 1) := by decide +kernel
theorem dX8_set_1 : decode cX8_set 1 = .ok (.iconst 3, 1) := by decide +kernel
theorem dX8_set_2 : decode cX8_set 2 = .ok (.invokestatic 74, 3) := by decide +kernel
theorem dX8_set_5 : decode cX8_set 5 = .ok (.ifCond .eq 15, 3) := by decide +kernel
theorem dX8_set_8 : decode cX8_set 8 = .ok (.iload_n 2, 1) := by decide +kernel
theorem dX8_set_9 : decode cX8_set 9 = .ok (.getstatic 145, 3) := by decide +kernel
theorem dX8_set_12 : decode cX8_set 12 = .ok (.iload_n 1, 1) := by decide +kernel
theorem dX8_set_13 : decode cX8_set 13 = .ok (.iaload, 1) := by decide +kernel
theorem dX8_set_14 : decode cX8_set 14 = .ok (.invokestatic 74, 3) := by decide +kernel
theorem dX8_set_17 : decode cX8_set 17 = .ok (.ifCond .ne 6, 3) := by decide +kernel
theorem dX8_set_20 : decode cX8_set 20 = .ok (.bipush (-2), 2) := by decide +kernel
theorem dX8_set_22 : decode cX8_set 22 = .ok (.ireturn, 1) := by decide +kernel
theorem dX8_set_23 : decode cX8_set 23 = .ok (.aload_n 0, 1) := by decide +kernel
theorem dX8_set_24 : decode cX8_set 24 = .ok (.invokevirtual 87, 3) := by decide +kernel
theorem dX8_set_27 : decode cX8_set 27 = .ok (.aload_n 0, 1) := by decide +kernel
theorem dX8_set_28 : decode cX8_set 28 = .ok (.getfield 41, 3) := by decide +kernel
theorem dX8_set_31 : decode cX8_set 31 = .ok (.iload_n 1, 1) := by decide +kernel
theorem dX8_set_32 : decode cX8_set 32 = .ok (.iload_n 2, 1) := by decide +kernel
theorem dX8_set_33 : decode cX8_set 33 = .ok (.invokevirtual 148, 3) := by decide +kernel
theorem dX8_set_36 : decode cX8_set 36 = .ok (.ireturn, 1) := by decide +kernel
theorem dX8_read_0 : decode cX8_read 0 = .ok (.iload_n 1, 1) := by decide +kernel
theorem dX8_read_1 : decode cX8_read 1 = .ok (.invokestatic 151, 3) := by decide +kernel
theorem dX8_read_4 : decode cX8_read 4 = .ok (.ifCond .ne 6, 3) := by decide +kernel
theorem dX8_read_7 : decode cX8_read 7 = .ok (.bipush (-2), 2) := by decide +kernel
theorem dX8_read_9 : decode cX8_read 9 = .ok (.ireturn, 1) := by decide +kernel
theorem dX8_read_10 : decode cX8_read 10 = .ok (.aload_n 0, 1) := by decide +kernel
theorem dX8_read_11 : decode cX8_read 11 = .ok (.getfield 59, 3) := by decide +kernel
theorem dX8_read_14 : decode cX8_read 14 = .ok (.iload_n 1, 1) := by decide +kernel
theorem dX8_read_15 : decode cX8_read 15 = .ok (.invokevirtual 154, 3) := by decide +kernel
theorem dX8_read_18 : decode cX8_read 18 = .ok (.ifCond .eq 12, 3) := by decide +kernel
theorem dX8_read_21 : decode cX8_read 21 = .ok (.aload_n 0, 1) := by decide +kernel
theorem dX8_read_22 : decode cX8_read 22 = .ok (.getfield 59, 3) := by decide +kernel
theorem dX8_read_25 : decode cX8_read 25 = .ok (.iconst 1, 1) := by decide +kernel
theorem dX8_read_26 : decode cX8_read 26 = .ok (.invokevirtual 157, 3) := by decide +kernel
theorem dX8_read_29 : decode cX8_read 29 = .ok (.ireturn, 1) := by decide +kernel
theorem dX8_read_30 : decode cX8_read 30 = .ok (.aload_n 0, 1) := by decide +kernel
theorem dX8_read_31 : decode cX8_read 31 = .ok (.invokevirtual 87, 3) := by decide +kernel
theorem dX8_read_34 : decode cX8_read 34 = .ok (.bipush 8, 2) := by decide +kernel
theorem dX8_read_36 : decode cX8_read 36 = .ok (.aload_n 0, 1) := by decide +kernel
theorem dX8_read_37 : decode cX8_read 37 = .ok (.getfield 59, 3) := by decide +kernel
theorem dX8_read_40 : decode cX8_read 40 = .ok (.getfield 160, 3) := by decide +kernel
theorem dX8_read_43 : decode cX8_read 43 = .ok (.iload_n 1, 1) := by decide +kernel
theorem dX8_read_44 : decode cX8_read 44 = .ok (.iaload, 1) := by decide +kernel
theorem dX8_read_45 : decode cX8_read 45 = .ok (.invokestatic 163, 3) := by decide +kernel
theorem dX8_read_48 : decode cX8_read 48 = .ok (.istore_n 2, 1) := by decide +kernel
theorem dX8_read_49 : decode cX8_read 49 = .ok (.iconst 0, 1) := by decide +kernel
theorem dX8_read_50 : decode cX8_read 50 = .ok (.istore_n 3, 1) := by decide +kernel
theorem dX8_read_51 : decode cX8_read 51 = .ok (.iload_n 3, 1) := by decide +kernel
theorem dX8_read_52 : decode cX8_read 52 = .ok (.iload_n 2, 1) := by decide +kernel
theorem dX8_read_53 : decode cX8_read 53 = .ok (.if_icmp .ge 44, 3) := by decide +kernel
theorem dX8_read_56 : decode cX8_read 56 = .ok (.aload_n 0, 1) := by decide +kernel
theorem dX8_read_57 : decode cX8_read 57 = .ok (.getfield 59, 3) := by decide +kernel
theorem dX8_read_60 : decode cX8_read 60 = .ok (.getfield 168, 3) := by decide +kernel
theorem dX8_read_63 : decode cX8_read 63 = .ok (.iload_n 1, 1) := by decide +kernel
theorem dX8_read_64 : decode cX8_read 64 = .ok (.aaload, 1) := by decide +kernel
theorem dX8_read_65 : decode cX8_read 65 = .ok (.iload_n 3, 1) := by decide +kernel
theorem dX8_read_66 : decode cX8_read 66 = .ok (.iaload, 1) := by decide +kernel
theorem dX8_read_67 : decode cX8_read 67 = .ok (.istore 4, 2) := by decide +kernel
theorem dX8_read_69 : decode cX8_read 69 = .ok (.iload 4, 2) := by decide +kernel
theorem dX8_read_71 : decode cX8_read 71 = .ok (.iconst 1, 1) := by decide +kernel
theorem dX8_read_72 : decode cX8_read 72 = .ok (.invokestatic 74, 3) := by decide +kernel
theorem dX8_read_75 : decode cX8_read 75 = .ok (.ifCond .ne 5, 3) := by decide +kernel
theorem dX8_read_78 : decode cX8_read 78 = .ok (.iload_n 3, 1) := by decide +kernel
theorem dX8_read_79 : decode cX8_read 79 = .ok (.ireturn, 1) := by decide +kernel
theorem dX8_read_80 : decode cX8_read 80 = .ok (.aload_n 0, 1) := by decide +kernel
theorem dX8_read_81 : decode cX8_read 81 = .ok (.getfield 41, 3) := by decide +kernel
theorem dX8_read_84 : decode cX8_read 84 = .ok (.getfield 172, 3) := by decide +kernel
theorem dX8_read_87 : decode cX8_read 87 = .ok (.iload_n 3, 1) := by decide +kernel
theorem dX8_read_88 : decode cX8_read 88 = .ok (.iload 4, 2) := by decide +kernel
theorem dX8_read_90 : decode cX8_read 90 = .ok (.iastore, 1) := by decide +kernel
theorem dX8_read_91 : decode cX8_read 91 = .ok (.iinc 3 1, 3) := by decide +kernel
theorem dX8_read_94 : decode cX8_read 94 = .ok (.goto (-43), 3) := by decide +kernel
theorem dX8_read_97 : decode cX8_read 97 = .ok (.iload_n 2, 1) := by decide +kernel
theorem dX8_read_98 : decode cX8_read 98 = .ok (.ireturn, 1) := by decide +kernel
theorem dX8_can_0 : decode cX8_can 0 = .ok (.aload_n 0, 1) := by decide +kernel
theorem dX8_can_1 : decode cX8_can 1 = .ok (.iload_n 1, 1) := by decide +kernel
theorem dX8_can_2 : decode cX8_can 2 = .ok (.invokevirtual 104, 3) := by decide +kernel
theorem dX8_can_5 : decode cX8_can 5 = .ok (.ifCond .eq 12, 3) := by decide +kernel
theorem dX8_can_8 : decode cX8_can 8 = .ok (.iload_n 2, 1) := by decide +kernel
theorem dX8_can_9 : decode cX8_can 9 = .ok (.bipush 7, 2) := by decide +kernel
theorem dX8_can_11 : decode cX8_can 11 = .ok (.invokestatic 74, 3) := by decide +kernel
theorem dX8_can_14 : decode cX8_can 14 = .ok (.ifCond .ne 6, 3) := by decide +kernel
theorem dX8_can_17 : decode cX8_can 17 = .ok (.bipush (-2), 2) := by decide +kernel
theorem dX8_can_19 : decode cX8_can 19 = .ok (.ireturn, 1) := by decide +kernel
theorem dX8_can_20 : decode cX8_can 20 = .ok (.aload_n 0, 1) := by decide +kernel
theorem dX8_can_21 : decode cX8_can 21 = .ok (.invokevirtual 175, 3) := by decide +kernel
theorem dX8_can_24 : decode cX8_can 24 = .ok (.aload_n 0, 1) := by decide +kernel
theorem dX8_can_25 : decode cX8_can 25 = .ok (.getfield 20, 3) := by decide +kernel
theorem dX8_can_28 : decode cX8_can 28 = .ok (.iload_n 1, 1) := by decide +kernel
theorem dX8_can_29 : decode cX8_can 29 = .ok (.iload_n 2, 1) := by decide +kernel
theorem dX8_can_30 : decode cX8_can 30 = .ok (.invokevirtual 178, 3) := by decide +kernel
theorem dX8_can_33 : decode cX8_can 33 = .ok (.ifCond .eq 7, 3) := by decide +kernel
theorem dX8_can_36 : decode cX8_can 36 = .ok (.iconst 1, 1) := by decide +kernel
theorem dX8_can_37 : decode cX8_can 37 = .ok (.goto 4, 3) := by decide +kernel
theorem dX8_can_40 : decode cX8_can 40 = .ok (.iconst 0, 1) := by decide +kernel
theorem dX8_can_41 : decode cX8_can 41 = .ok (.ireturn, 1) := by decide +kernel
theorem dX8_hours_0 : decode cX8_hours 0 = .ok (.aload_n 0, 1) := by decide +kernel
theorem dX8_hours_1 : decode cX8_hours 1 = .ok (.iload_n 1, 1) := by decide +kernel
theorem dX8_hours_2 : decode cX8_hours 2 = .ok (.invokevirtual 104, 3) := by decide +kernel
theorem dX8_hours_5 : decode cX8_hours 5 = .ok (.ifCond .ne 6, 3) := by decide +kernel
theorem dX8_hours_8 : decode cX8_hours 8 = .ok (.bipush (-2), 2) := by decide +kernel
theorem dX8_hours_10 : decode cX8_hours 10 = .ok (.ireturn, 1) := by decide +kernel
theorem dX8_hours_11 : decode cX8_hours 11 = .ok (.aload_n 0, 1) := by decide +kernel
theorem dX8_hours_12 : decode cX8_hours 12 = .ok (.invokevirtual 175, 3) := by decide +kernel
theorem dX8_hours_15 : decode cX8_hours 15 = .ok (.aload_n 0, 1) := by decide +kernel
theorem dX8_hours_16 : decode cX8_hours 16 = .ok (.getfield 20, 3) := by decide +kernel
theorem dX8_hours_19 : decode cX8_hours 19 = .ok (.iload_n 1, 1) := by decide +kernel
theorem dX8_hours_20 : decode cX8_hours 20 = .ok (.invokevirtual 181, 3) := by decide +kernel
theorem dX8_hours_23 : decode cX8_hours 23 = .ok (.ireturn, 1) := by decide +kernel
theorem dX8_comes_0 : decode cX8_comes 0 = .ok (.aload_n 0, 1) := by decide +kernel
theorem dX8_comes_1 : decode cX8_comes 1 = .ok (.iload_n 1, 1) := by decide +kernel
theorem dX8_comes_2 : decode cX8_comes 2 = .ok (.invokevirtual 104, 3) := by decide +kernel
theorem dX8_comes_5 : decode cX8_comes 5 = .ok (.ifCond .eq 12, 3) := by decide +kernel
theorem dX8_comes_8 : decode cX8_comes 8 = .ok (.iload_n 2, 1) := by decide +kernel
theorem dX8_comes_9 : decode cX8_comes 9 = .ok (.bipush 7, 2) := by decide +kernel
theorem dX8_comes_11 : decode cX8_comes 11 = .ok (.invokestatic 74, 3) := by decide +kernel
theorem dX8_comes_14 : decode cX8_comes 14 = .ok (.ifCond .ne 6, 3) := by decide +kernel
theorem dX8_comes_17 : decode cX8_comes 17 = .ok (.bipush (-2), 2) := by decide +kernel
theorem dX8_comes_19 : decode cX8_comes 19 = .ok (.ireturn, 1) := by decide +kernel
theorem dX8_comes_20 : decode cX8_comes 20 = .ok (.aload_n 0, 1) := by decide +kernel
theorem dX8_comes_21 : decode cX8_comes 21 = .ok (.invokevirtual 175, 3) := by decide +kernel
theorem dX8_comes_24 : decode cX8_comes 24 = .ok (.aload_n 0, 1) := by decide +kernel
theorem dX8_comes_25 : decode cX8_comes 25 = .ok (.getfield 20, 3) := by decide +kernel
theorem dX8_comes_28 : decode cX8_comes 28 = .ok (.iload_n 1, 1) := by decide +kernel
theorem dX8_comes_29 : decode cX8_comes 29 = .ok (.iload_n 2, 1) := by decide +kernel
theorem dX8_comes_30 : decode cX8_comes 30 = .ok (.invokevirtual 178, 3) := by decide +kernel
theorem dX8_comes_33 : decode cX8_comes 33 = .ok (.ifCond .eq 15, 3) := by decide +kernel
theorem dX8_comes_36 : decode cX8_comes 36 = .ok (.aload_n 0, 1) := by decide +kernel
theorem dX8_comes_37 : decode cX8_comes 37 = .ok (.getfield 20, 3) := by decide +kernel
theorem dX8_comes_40 : decode cX8_comes 40 = .ok (.iload_n 1, 1) := by decide +kernel
theorem dX8_comes_41 : decode cX8_comes 41 = .ok (.iload_n 2, 1) := by decide +kernel
theorem dX8_comes_42 : decode cX8_comes 42 = .ok (.invokevirtual 184, 3) := by decide +kernel
theorem dX8_comes_45 : decode cX8_comes 45 = .ok (.goto 5, 3) := by decide +kernel
theorem dX8_comes_48 : decode cX8_comes 48 = .ok (.bipush (-3), 2) := by decide +kernel
theorem dX8_comes_50 : decode cX8_comes 50 = .ok (.ireturn, 1) := by decide +kernel
theorem dX8_costs_0 : decode cX8_costs 0 = .ok (.aload_n 0, 1) := by decide +kernel
theorem dX8_costs_1 : decode cX8_costs 1 = .ok (.iload_n 1, 1) := by decide +kernel
theorem dX8_costs_2 : decode cX8_costs 2 = .ok (.invokevirtual 104, 3) := by decide +kernel
theorem dX8_costs_5 : decode cX8_costs 5 = .ok (.ifCond .eq 12, 3) := by decide +kernel
theorem dX8_costs_8 : decode cX8_costs 8 = .ok (.iload_n 2, 1) := by decide +kernel
theorem dX8_costs_9 : decode cX8_costs 9 = .ok (.bipush 7, 2) := by decide +kernel
theorem dX8_costs_11 : decode cX8_costs 11 = .ok (.invokestatic 74, 3) := by decide +kernel
theorem dX8_costs_14 : decode cX8_costs 14 = .ok (.ifCond .ne 6, 3) := by decide +kernel
theorem dX8_costs_17 : decode cX8_costs 17 = .ok (.bipush (-2), 2) := by decide +kernel
theorem dX8_costs_19 : decode cX8_costs 19 = .ok (.ireturn, 1) := by decide +kernel
theorem dX8_costs_20 : decode cX8_costs 20 = .ok (.aload_n 0, 1) := by decide +kernel
theorem dX8_costs_21 : decode cX8_costs 21 = .ok (.invokevirtual 175, 3) := by decide +kernel
theorem dX8_costs_24 : decode cX8_costs 24 = .ok (.aload_n 0, 1) := by decide +kernel
theorem dX8_costs_25 : decode cX8_costs 25 = .ok (.getfield 20, 3) := by decide +kernel
theorem dX8_costs_28 : decode cX8_costs 28 = .ok (.iload_n 1, 1) := by decide +kernel
theorem dX8_costs_29 : decode cX8_costs 29 = .ok (.iload_n 2, 1) := by decide +kernel
theorem dX8_costs_30 : decode cX8_costs 30 = .ok (.invokevirtual 178, 3) := by decide +kernel
theorem dX8_costs_33 : decode cX8_costs 33 = .ok (.ifCond .eq 15, 3) := by decide +kernel
theorem dX8_costs_36 : decode cX8_costs 36 = .ok (.aload_n 0, 1) := by decide +kernel
theorem dX8_costs_37 : decode cX8_costs 37 = .ok (.getfield 20, 3) := by decide +kernel
theorem dX8_costs_40 : decode cX8_costs 40 = .ok (.iload_n 1, 1) := by decide +kernel
theorem dX8_costs_41 : decode cX8_costs 41 = .ok (.iload_n 2, 1) := by decide +kernel
theorem dX8_costs_42 : decode cX8_costs 42 = .ok (.invokevirtual 187, 3) := by decide +kernel
theorem dX8_costs_45 : decode cX8_costs 45 = .ok (.goto 5, 3) := by decide +kernel
theorem dX8_costs_48 : decode cX8_costs 48 = .ok (.bipush (-3), 2) := by decide +kernel
theorem dX8_costs_50 : decode cX8_costs 50 = .ok (.ireturn, 1) := by decide +kernel
theorem dX8_most_0 : decode cX8_most 0 = .ok (.iload_n 1, 1) := by decide +kernel
theorem dX8_most_1 : decode cX8_most 1 = .ok (.iconst 1, 1) := by decide +kernel
theorem dX8_most_2 : decode cX8_most 2 = .ok (.invokestatic 74, 3) := by decide +kernel
theorem dX8_most_5 : decode cX8_most 5 = .ok (.ifCond .ne 6, 3) := by decide +kernel
theorem dX8_most_8 : decode cX8_most 8 = .ok (.bipush (-2), 2) := by decide +kernel
theorem dX8_most_10 : decode cX8_most 10 = .ok (.ireturn, 1) := by decide +kernel
theorem dX8_most_11 : decode cX8_most 11 = .ok (.aload_n 0, 1) := by decide +kernel
theorem dX8_most_12 : decode cX8_most 12 = .ok (.invokevirtual 190, 3) := by decide +kernel
theorem dX8_most_15 : decode cX8_most 15 = .ok (.iload_n 1, 1) := by decide +kernel
theorem dX8_most_16 : decode cX8_most 16 = .ok (.ifCond .ne 13, 3) := by decide +kernel
theorem dX8_most_19 : decode cX8_most 19 = .ok (.aload_n 0, 1) := by decide +kernel
theorem dX8_most_20 : decode cX8_most 20 = .ok (.getfield 10, 3) := by decide +kernel
theorem dX8_most_23 : decode cX8_most 23 = .ok (.getfield 193, 3) := by decide +kernel
theorem dX8_most_26 : decode cX8_most 26 = .ok (.goto 10, 3) := by decide +kernel
theorem dX8_most_29 : decode cX8_most 29 = .ok (.aload_n 0, 1) := by decide +kernel
theorem dX8_most_30 : decode cX8_most 30 = .ok (.getfield 10, 3) := by decide +kernel
theorem dX8_most_33 : decode cX8_most 33 = .ok (.getfield 195, 3) := by decide +kernel
theorem dX8_most_36 : decode cX8_most 36 = .ok (.ireturn, 1) := by decide +kernel
theorem dX8_when_0 : decode cX8_when 0 = .ok (.aload_n 0, 1) := by decide +kernel
theorem dX8_when_1 : decode cX8_when 1 = .ok (.iload_n 1, 1) := by decide +kernel
theorem dX8_when_2 : decode cX8_when 2 = .ok (.invokevirtual 104, 3) := by decide +kernel
theorem dX8_when_5 : decode cX8_when 5 = .ok (.ifCond .ne 6, 3) := by decide +kernel
theorem dX8_when_8 : decode cX8_when 8 = .ok (.bipush (-2), 2) := by decide +kernel
theorem dX8_when_10 : decode cX8_when 10 = .ok (.ireturn, 1) := by decide +kernel
theorem dX8_when_11 : decode cX8_when 11 = .ok (.aload_n 0, 1) := by decide +kernel
theorem dX8_when_12 : decode cX8_when 12 = .ok (.invokevirtual 190, 3) := by decide +kernel
theorem dX8_when_15 : decode cX8_when 15 = .ok (.aload_n 0, 1) := by decide +kernel
theorem dX8_when_16 : decode cX8_when 16 = .ok (.getfield 10, 3) := by decide +kernel
theorem dX8_when_19 : decode cX8_when 19 = .ok (.getfield 198, 3) := by decide +kernel
theorem dX8_when_22 : decode cX8_when 22 = .ok (.iload_n 1, 1) := by decide +kernel
theorem dX8_when_23 : decode cX8_when 23 = .ok (.iaload, 1) := by decide +kernel
theorem dX8_when_24 : decode cX8_when 24 = .ok (.ireturn, 1) := by decide +kernel
theorem dX8_plan_0 : decode cX8_plan 0 = .ok (.iload_n 1, 1) := by decide +kernel
theorem dX8_plan_1 : decode cX8_plan 1 = .ok (.invokestatic 151, 3) := by decide +kernel
theorem dX8_plan_4 : decode cX8_plan 4 = .ok (.ifCond .eq 11, 3) := by decide +kernel
theorem dX8_plan_7 : decode cX8_plan 7 = .ok (.iload_n 2, 1) := by decide +kernel
theorem dX8_plan_8 : decode cX8_plan 8 = .ok (.iconst 2, 1) := by decide +kernel
theorem dX8_plan_9 : decode cX8_plan 9 = .ok (.invokestatic 74, 3) := by decide +kernel
theorem dX8_plan_12 : decode cX8_plan 12 = .ok (.ifCond .ne 6, 3) := by decide +kernel
theorem dX8_plan_15 : decode cX8_plan 15 = .ok (.bipush (-2), 2) := by decide +kernel
theorem dX8_plan_17 : decode cX8_plan 17 = .ok (.ireturn, 1) := by decide +kernel
theorem dX8_plan_18 : decode cX8_plan 18 = .ok (.aload_n 0, 1) := by decide +kernel
theorem dX8_plan_19 : decode cX8_plan 19 = .ok (.getfield 59, 3) := by decide +kernel
theorem dX8_plan_22 : decode cX8_plan 22 = .ok (.iload_n 1, 1) := by decide +kernel
theorem dX8_plan_23 : decode cX8_plan 23 = .ok (.invokevirtual 154, 3) := by decide +kernel
theorem dX8_plan_26 : decode cX8_plan 26 = .ok (.ifCond .eq 12, 3) := by decide +kernel
theorem dX8_plan_29 : decode cX8_plan 29 = .ok (.aload_n 0, 1) := by decide +kernel
theorem dX8_plan_30 : decode cX8_plan 30 = .ok (.getfield 59, 3) := by decide +kernel
theorem dX8_plan_33 : decode cX8_plan 33 = .ok (.iconst 1, 1) := by decide +kernel
theorem dX8_plan_34 : decode cX8_plan 34 = .ok (.invokevirtual 157, 3) := by decide +kernel
theorem dX8_plan_37 : decode cX8_plan 37 = .ok (.ireturn, 1) := by decide +kernel
theorem dX8_plan_38 : decode cX8_plan 38 = .ok (.aload_n 0, 1) := by decide +kernel
theorem dX8_plan_39 : decode cX8_plan 39 = .ok (.invokevirtual 175, 3) := by decide +kernel
theorem dX8_plan_42 : decode cX8_plan 42 = .ok (.aload_n 0, 1) := by decide +kernel
theorem dX8_plan_43 : decode cX8_plan 43 = .ok (.getfield 59, 3) := by decide +kernel
theorem dX8_plan_46 : decode cX8_plan 46 = .ok (.getfield 160, 3) := by decide +kernel
theorem dX8_plan_49 : decode cX8_plan 49 = .ok (.iload_n 1, 1) := by decide +kernel
theorem dX8_plan_50 : decode cX8_plan 50 = .ok (.iaload, 1) := by decide +kernel
theorem dX8_plan_51 : decode cX8_plan 51 = .ok (.aload_n 0, 1) := by decide +kernel
theorem dX8_plan_52 : decode cX8_plan 52 = .ok (.getfield 27, 3) := by decide +kernel
theorem dX8_plan_55 : decode cX8_plan 55 = .ok (.getfield 201, 3) := by decide +kernel
theorem dX8_plan_58 : decode cX8_plan 58 = .ok (.if_icmp .ge 6, 3) := by decide +kernel
theorem dX8_plan_61 : decode cX8_plan 61 = .ok (.bipush (-3), 2) := by decide +kernel
theorem dX8_plan_63 : decode cX8_plan 63 = .ok (.ireturn, 1) := by decide +kernel
theorem dX8_plan_64 : decode cX8_plan 64 = .ok (.iconst 0, 1) := by decide +kernel
theorem dX8_plan_65 : decode cX8_plan 65 = .ok (.istore_n 3, 1) := by decide +kernel
theorem dX8_plan_66 : decode cX8_plan 66 = .ok (.iload_n 3, 1) := by decide +kernel
theorem dX8_plan_67 : decode cX8_plan 67 = .ok (.aload_n 0, 1) := by decide +kernel
theorem dX8_plan_68 : decode cX8_plan 68 = .ok (.getfield 27, 3) := by decide +kernel
theorem dX8_plan_71 : decode cX8_plan 71 = .ok (.getfield 201, 3) := by decide +kernel
theorem dX8_plan_74 : decode cX8_plan 74 = .ok (.if_icmp .ge 26, 3) := by decide +kernel
theorem dX8_plan_77 : decode cX8_plan 77 = .ok (.aload_n 0, 1) := by decide +kernel
theorem dX8_plan_78 : decode cX8_plan 78 = .ok (.getfield 63, 3) := by decide +kernel
theorem dX8_plan_81 : decode cX8_plan 81 = .ok (.iload_n 3, 1) := by decide +kernel
theorem dX8_plan_82 : decode cX8_plan 82 = .ok (.aload_n 0, 1) := by decide +kernel
theorem dX8_plan_83 : decode cX8_plan 83 = .ok (.getfield 59, 3) := by decide +kernel
theorem dX8_plan_86 : decode cX8_plan 86 = .ok (.getfield 168, 3) := by decide +kernel
theorem dX8_plan_89 : decode cX8_plan 89 = .ok (.iload_n 1, 1) := by decide +kernel
theorem dX8_plan_90 : decode cX8_plan 90 = .ok (.aaload, 1) := by decide +kernel
theorem dX8_plan_91 : decode cX8_plan 91 = .ok (.iload_n 3, 1) := by decide +kernel
theorem dX8_plan_92 : decode cX8_plan 92 = .ok (.iaload, 1) := by decide +kernel
theorem dX8_plan_93 : decode cX8_plan 93 = .ok (.iastore, 1) := by decide +kernel
theorem dX8_plan_94 : decode cX8_plan 94 = .ok (.iinc 3 1, 3) := by decide +kernel
theorem dX8_plan_97 : decode cX8_plan 97 = .ok (.goto (-31), 3) := by decide +kernel
theorem dX8_plan_100 : decode cX8_plan 100 = .ok (.aload_n 0, 1) := by decide +kernel
theorem dX8_plan_101 : decode cX8_plan 101 = .ok (.getfield 20, 3) := by decide +kernel
theorem dX8_plan_104 : decode cX8_plan 104 = .ok (.aload_n 0, 1) := by decide +kernel
theorem dX8_plan_105 : decode cX8_plan 105 = .ok (.getfield 63, 3) := by decide +kernel
theorem dX8_plan_108 : decode cX8_plan 108 = .ok (.invokevirtual 203, 3) := by decide +kernel
theorem dX8_plan_111 : decode cX8_plan 111 = .ok (.istore_n 3, 1) := by decide +kernel
theorem dX8_plan_112 : decode cX8_plan 112 = .ok (.iload_n 2, 1) := by decide +kernel
theorem dX8_plan_113 : decode cX8_plan 113 = .ok (.ifCond .ne 13, 3) := by decide +kernel
theorem dX8_plan_116 : decode cX8_plan 116 = .ok (.iload_n 3, 1) := by decide +kernel
theorem dX8_plan_117 : decode cX8_plan 117 = .ok (.ifCond .eq 7, 3) := by decide +kernel
theorem dX8_plan_120 : decode cX8_plan 120 = .ok (.iconst 1, 1) := by decide +kernel
theorem dX8_plan_121 : decode cX8_plan 121 = .ok (.goto 4, 3) := by decide +kernel
theorem dX8_plan_124 : decode cX8_plan 124 = .ok (.iconst 0, 1) := by decide +kernel
theorem dX8_plan_125 : decode cX8_plan 125 = .ok (.ireturn, 1) := by decide +kernel
theorem dX8_plan_126 : decode cX8_plan 126 = .ok (.iload_n 3, 1) := by decide +kernel
theorem dX8_plan_127 : decode cX8_plan 127 = .ok (.ifCond .ne 6, 3) := by decide +kernel
theorem dX8_plan_130 : decode cX8_plan 130 = .ok (.bipush (-3), 2) := by decide +kernel
theorem dX8_plan_132 : decode cX8_plan 132 = .ok (.ireturn, 1) := by decide +kernel
theorem dX8_plan_133 : decode cX8_plan 133 = .ok (.iload_n 2, 1) := by decide +kernel
theorem dX8_plan_134 : decode cX8_plan 134 = .ok (.iconst 1, 1) := by decide +kernel
theorem dX8_plan_135 : decode cX8_plan 135 = .ok (.if_icmp .ne 17, 3) := by decide +kernel
theorem dX8_plan_138 : decode cX8_plan 138 = .ok (.aload_n 0, 1) := by decide +kernel
theorem dX8_plan_139 : decode cX8_plan 139 = .ok (.getfield 20, 3) := by decide +kernel
theorem dX8_plan_142 : decode cX8_plan 142 = .ok (.aload_n 0, 1) := by decide +kernel
theorem dX8_plan_143 : decode cX8_plan 143 = .ok (.getfield 63, 3) := by decide +kernel
theorem dX8_plan_146 : decode cX8_plan 146 = .ok (.invokevirtual 207, 3) := by decide +kernel
theorem dX8_plan_149 : decode cX8_plan 149 = .ok (.goto 14, 3) := by decide +kernel
theorem dX8_plan_152 : decode cX8_plan 152 = .ok (.aload_n 0, 1) := by decide +kernel
theorem dX8_plan_153 : decode cX8_plan 153 = .ok (.getfield 20, 3) := by decide +kernel
theorem dX8_plan_156 : decode cX8_plan 156 = .ok (.aload_n 0, 1) := by decide +kernel
theorem dX8_plan_157 : decode cX8_plan 157 = .ok (.getfield 63, 3) := by decide +kernel
theorem dX8_plan_160 : decode cX8_plan 160 = .ok (.invokevirtual 211, 3) := by decide +kernel
theorem dX8_plan_163 : decode cX8_plan 163 = .ok (.ireturn, 1) := by decide +kernel
theorem dX8_asked_0 : decode cX8_asked 0 = .ok (.iload_n 1, 1) := by decide +kernel
theorem dX8_asked_1 : decode cX8_asked 1 = .ok (.bipush 7, 2) := by decide +kernel
theorem dX8_asked_3 : decode cX8_asked 3 = .ok (.invokestatic 74, 3) := by decide +kernel
theorem dX8_asked_6 : decode cX8_asked 6 = .ok (.ifCond .eq 12, 3) := by decide +kernel
theorem dX8_asked_9 : decode cX8_asked 9 = .ok (.iload_n 2, 1) := by decide +kernel
theorem dX8_asked_10 : decode cX8_asked 10 = .ok (.bipush 7, 2) := by decide +kernel
theorem dX8_asked_12 : decode cX8_asked 12 = .ok (.invokestatic 74, 3) := by decide +kernel
theorem dX8_asked_15 : decode cX8_asked 15 = .ok (.ifCond .ne 6, 3) := by decide +kernel
theorem dX8_asked_18 : decode cX8_asked 18 = .ok (.bipush (-2), 2) := by decide +kernel
theorem dX8_asked_20 : decode cX8_asked 20 = .ok (.ireturn, 1) := by decide +kernel
theorem dX8_asked_21 : decode cX8_asked 21 = .ok (.aload_n 0, 1) := by decide +kernel
theorem dX8_asked_22 : decode cX8_asked 22 = .ok (.invokevirtual 175, 3) := by decide +kernel
theorem dX8_asked_25 : decode cX8_asked 25 = .ok (.aload_n 0, 1) := by decide +kernel
theorem dX8_asked_26 : decode cX8_asked 26 = .ok (.getfield 20, 3) := by decide +kernel
theorem dX8_asked_29 : decode cX8_asked 29 = .ok (.iload_n 1, 1) := by decide +kernel
theorem dX8_asked_30 : decode cX8_asked 30 = .ok (.iload_n 2, 1) := by decide +kernel
theorem dX8_asked_31 : decode cX8_asked 31 = .ok (.invokevirtual 214, 3) := by decide +kernel
theorem dX8_asked_34 : decode cX8_asked 34 = .ok (.ireturn, 1) := by decide +kernel
theorem dX8_crowd_0 : decode cX8_crowd 0 = .ok (.iload_n 1, 1) := by decide +kernel
theorem dX8_crowd_1 : decode cX8_crowd 1 = .ok (.iconst 2, 1) := by decide +kernel
theorem dX8_crowd_2 : decode cX8_crowd 2 = .ok (.invokestatic 74, 3) := by decide +kernel
theorem dX8_crowd_5 : decode cX8_crowd 5 = .ok (.ifCond .ne 6, 3) := by decide +kernel
theorem dX8_crowd_8 : decode cX8_crowd 8 = .ok (.bipush (-2), 2) := by decide +kernel
theorem dX8_crowd_10 : decode cX8_crowd 10 = .ok (.ireturn, 1) := by decide +kernel
theorem dX8_crowd_11 : decode cX8_crowd 11 = .ok (.aload_n 0, 1) := by decide +kernel
theorem dX8_crowd_12 : decode cX8_crowd 12 = .ok (.invokevirtual 175, 3) := by decide +kernel
theorem dX8_crowd_15 : decode cX8_crowd 15 = .ok (.iconst (-1), 1) := by decide +kernel
theorem dX8_crowd_16 : decode cX8_crowd 16 = .ok (.istore_n 2, 1) := by decide +kernel
theorem dX8_crowd_17 : decode cX8_crowd 17 = .ok (.iconst (-1), 1) := by decide +kernel
theorem dX8_crowd_18 : decode cX8_crowd 18 = .ok (.istore_n 3, 1) := by decide +kernel
theorem dX8_crowd_19 : decode cX8_crowd 19 = .ok (.iconst 0, 1) := by decide +kernel
theorem dX8_crowd_20 : decode cX8_crowd 20 = .ok (.istore 4, 2) := by decide +kernel
theorem dX8_crowd_22 : decode cX8_crowd 22 = .ok (.iconst 0, 1) := by decide +kernel
theorem dX8_crowd_23 : decode cX8_crowd 23 = .ok (.istore 5, 2) := by decide +kernel
theorem dX8_crowd_25 : decode cX8_crowd 25 = .ok (.iload 5, 2) := by decide +kernel
theorem dX8_crowd_27 : decode cX8_crowd 27 = .ok (.bipush 8, 2) := by decide +kernel
theorem dX8_crowd_29 : decode cX8_crowd 29 = .ok (.if_icmp .ge 55, 3) := by decide +kernel
theorem dX8_crowd_32 : decode cX8_crowd 32 = .ok (.iconst 0, 1) := by decide +kernel
theorem dX8_crowd_33 : decode cX8_crowd 33 = .ok (.istore 6, 2) := by decide +kernel
theorem dX8_crowd_35 : decode cX8_crowd 35 = .ok (.iload 6, 2) := by decide +kernel
theorem dX8_crowd_37 : decode cX8_crowd 37 = .ok (.bipush 8, 2) := by decide +kernel
theorem dX8_crowd_39 : decode cX8_crowd 39 = .ok (.if_icmp .ge 39, 3) := by decide +kernel
theorem dX8_crowd_42 : decode cX8_crowd 42 = .ok (.aload_n 0, 1) := by decide +kernel
theorem dX8_crowd_43 : decode cX8_crowd 43 = .ok (.getfield 20, 3) := by decide +kernel
theorem dX8_crowd_46 : decode cX8_crowd 46 = .ok (.iload 5, 2) := by decide +kernel
theorem dX8_crowd_48 : decode cX8_crowd 48 = .ok (.iload 6, 2) := by decide +kernel
theorem dX8_crowd_50 : decode cX8_crowd 50 = .ok (.invokevirtual 214, 3) := by decide +kernel
theorem dX8_crowd_53 : decode cX8_crowd 53 = .ok (.istore 7, 2) := by decide +kernel
theorem dX8_crowd_55 : decode cX8_crowd 55 = .ok (.iload 7, 2) := by decide +kernel
theorem dX8_crowd_57 : decode cX8_crowd 57 = .ok (.iload 4, 2) := by decide +kernel
theorem dX8_crowd_59 : decode cX8_crowd 59 = .ok (.if_icmp .le 13, 3) := by decide +kernel
theorem dX8_crowd_62 : decode cX8_crowd 62 = .ok (.iload 5, 2) := by decide +kernel
theorem dX8_crowd_64 : decode cX8_crowd 64 = .ok (.istore_n 2, 1) := by decide +kernel
theorem dX8_crowd_65 : decode cX8_crowd 65 = .ok (.iload 6, 2) := by decide +kernel
theorem dX8_crowd_67 : decode cX8_crowd 67 = .ok (.istore_n 3, 1) := by decide +kernel
theorem dX8_crowd_68 : decode cX8_crowd 68 = .ok (.iload 7, 2) := by decide +kernel
theorem dX8_crowd_70 : decode cX8_crowd 70 = .ok (.istore 4, 2) := by decide +kernel
theorem dX8_crowd_72 : decode cX8_crowd 72 = .ok (.iinc 6 1, 3) := by decide +kernel
theorem dX8_crowd_75 : decode cX8_crowd 75 = .ok (.goto (-40), 3) := by decide +kernel
theorem dX8_crowd_78 : decode cX8_crowd 78 = .ok (.iinc 5 1, 3) := by decide +kernel
theorem dX8_crowd_81 : decode cX8_crowd 81 = .ok (.goto (-56), 3) := by decide +kernel
theorem dX8_crowd_84 : decode cX8_crowd 84 = .ok (.iload_n 1, 1) := by decide +kernel
theorem dX8_crowd_85 : decode cX8_crowd 85 = .ok (.ifCond .ne 5, 3) := by decide +kernel
theorem dX8_crowd_88 : decode cX8_crowd 88 = .ok (.iload_n 2, 1) := by decide +kernel
theorem dX8_crowd_89 : decode cX8_crowd 89 = .ok (.ireturn, 1) := by decide +kernel
theorem dX8_crowd_90 : decode cX8_crowd 90 = .ok (.iload_n 1, 1) := by decide +kernel
theorem dX8_crowd_91 : decode cX8_crowd 91 = .ok (.iconst 1, 1) := by decide +kernel
theorem dX8_crowd_92 : decode cX8_crowd 92 = .ok (.if_icmp .ne 7, 3) := by decide +kernel
theorem dX8_crowd_95 : decode cX8_crowd 95 = .ok (.iload_n 3, 1) := by decide +kernel
theorem dX8_crowd_96 : decode cX8_crowd 96 = .ok (.goto 5, 3) := by decide +kernel
theorem dX8_crowd_99 : decode cX8_crowd 99 = .ok (.iload 4, 2) := by decide +kernel
theorem dX8_crowd_101 : decode cX8_crowd 101 = .ok (.ireturn, 1) := by decide +kernel
theorem dX8_likeness_0 : decode cX8_likeness 0 = .ok (.aload_n 0, 1) := by decide +kernel
theorem dX8_likeness_1 : decode cX8_likeness 1 = .ok (.iload_n 1, 1) := by decide +kernel
theorem dX8_likeness_2 : decode cX8_likeness 2 = .ok (.invokevirtual 104, 3) := by decide +kernel
theorem dX8_likeness_5 : decode cX8_likeness 5 = .ok (.ifCond .eq 12, 3) := by decide +kernel
theorem dX8_likeness_8 : decode cX8_likeness 8 = .ok (.iload_n 2, 1) := by decide +kernel
theorem dX8_likeness_9 : decode cX8_likeness 9 = .ok (.bipush 7, 2) := by decide +kernel
theorem dX8_likeness_11 : decode cX8_likeness 11 = .ok (.invokestatic 74, 3) := by decide +kernel
theorem dX8_likeness_14 : decode cX8_likeness 14 = .ok (.ifCond .ne 6, 3) := by decide +kernel
theorem dX8_likeness_17 : decode cX8_likeness 17 = .ok (.bipush (-2), 2) := by decide +kernel
theorem dX8_likeness_19 : decode cX8_likeness 19 = .ok (.ireturn, 1) := by decide +kernel
theorem dX8_likeness_20 : decode cX8_likeness 20 = .ok (.aload_n 0, 1) := by decide +kernel
theorem dX8_likeness_21 : decode cX8_likeness 21 = .ok (.invokevirtual 175, 3) := by decide +kernel
theorem dX8_likeness_24 : decode cX8_likeness 24 = .ok (.aload_n 0, 1) := by decide +kernel
theorem dX8_likeness_25 : decode cX8_likeness 25 = .ok (.getfield 20, 3) := by decide +kernel
theorem dX8_likeness_28 : decode cX8_likeness 28 = .ok (.iload_n 1, 1) := by decide +kernel
theorem dX8_likeness_29 : decode cX8_likeness 29 = .ok (.iload_n 2, 1) := by decide +kernel
theorem dX8_likeness_30 : decode cX8_likeness 30 = .ok (.invokevirtual 178, 3) := by decide +kernel
theorem dX8_likeness_33 : decode cX8_likeness 33 = .ok (.ifCond .eq 15, 3) := by decide +kernel
theorem dX8_likeness_36 : decode cX8_likeness 36 = .ok (.aload_n 0, 1) := by decide +kernel
theorem dX8_likeness_37 : decode cX8_likeness 37 = .ok (.getfield 20, 3) := by decide +kernel
theorem dX8_likeness_40 : decode cX8_likeness 40 = .ok (.iload_n 1, 1) := by decide +kernel
theorem dX8_likeness_41 : decode cX8_likeness 41 = .ok (.iload_n 2, 1) := by decide +kernel
theorem dX8_likeness_42 : decode cX8_likeness 42 = .ok (.invokevirtual 217, 3) := by decide +kernel
theorem dX8_likeness_45 : decode cX8_likeness 45 = .ok (.goto 5, 3) := by decide +kernel
theorem dX8_likeness_48 : decode cX8_likeness 48 = .ok (.bipush (-3), 2) := by decide +kernel
theorem dX8_likeness_50 : decode cX8_likeness 50 = .ok (.ireturn, 1) := by decide +kernel
theorem dX8_odds_0 : decode cX8_odds 0 = .ok (.aload_n 0, 1) := by decide +kernel
theorem dX8_odds_1 : decode cX8_odds 1 = .ok (.iload_n 1, 1) := by decide +kernel
theorem dX8_odds_2 : decode cX8_odds 2 = .ok (.invokevirtual 104, 3) := by decide +kernel
theorem dX8_odds_5 : decode cX8_odds 5 = .ok (.ifCond .eq 20, 3) := by decide +kernel
theorem dX8_odds_8 : decode cX8_odds 8 = .ok (.iload_n 2, 1) := by decide +kernel
theorem dX8_odds_9 : decode cX8_odds 9 = .ok (.bipush 7, 2) := by decide +kernel
theorem dX8_odds_11 : decode cX8_odds 11 = .ok (.invokestatic 74, 3) := by decide +kernel
theorem dX8_odds_14 : decode cX8_odds 14 = .ok (.ifCond .eq 11, 3) := by decide +kernel
theorem dX8_odds_17 : decode cX8_odds 17 = .ok (.iload_n 3, 1) := by decide +kernel
theorem dX8_odds_18 : decode cX8_odds 18 = .ok (.iconst 1, 1) := by decide +kernel
theorem dX8_odds_19 : decode cX8_odds 19 = .ok (.invokestatic 74, 3) := by decide +kernel
theorem dX8_odds_22 : decode cX8_odds 22 = .ok (.ifCond .ne 9, 3) := by decide +kernel
theorem dX8_odds_25 : decode cX8_odds 25 = .ok (.bipush (-2), 2) := by decide +kernel
theorem dX8_odds_27 : decode cX8_odds 27 = .ok (.invokestatic 220, 3) := by decide +kernel
theorem dX8_odds_30 : decode cX8_odds 30 = .ok (.lreturn, 1) := by decide +kernel
theorem dX8_odds_31 : decode cX8_odds 31 = .ok (.aload_n 0, 1) := by decide +kernel
theorem dX8_odds_32 : decode cX8_odds 32 = .ok (.invokevirtual 175, 3) := by decide +kernel
theorem dX8_odds_35 : decode cX8_odds 35 = .ok (.aload_n 0, 1) := by decide +kernel
theorem dX8_odds_36 : decode cX8_odds 36 = .ok (.getfield 20, 3) := by decide +kernel
theorem dX8_odds_39 : decode cX8_odds 39 = .ok (.iload_n 1, 1) := by decide +kernel
theorem dX8_odds_40 : decode cX8_odds 40 = .ok (.iload_n 2, 1) := by decide +kernel
theorem dX8_odds_41 : decode cX8_odds 41 = .ok (.invokevirtual 178, 3) := by decide +kernel
theorem dX8_odds_44 : decode cX8_odds 44 = .ok (.ifCond .ne 9, 3) := by decide +kernel
theorem dX8_odds_47 : decode cX8_odds 47 = .ok (.bipush (-3), 2) := by decide +kernel
theorem dX8_odds_49 : decode cX8_odds 49 = .ok (.invokestatic 220, 3) := by decide +kernel
theorem dX8_odds_52 : decode cX8_odds 52 = .ok (.lreturn, 1) := by decide +kernel
theorem dX8_odds_53 : decode cX8_odds 53 = .ok (.iconst 1, 1) := by decide +kernel
theorem dX8_odds_54 : decode cX8_odds 54 = .ok (.istore 4, 2) := by decide +kernel
theorem dX8_odds_56 : decode cX8_odds 56 = .ok (.iconst 1, 1) := by decide +kernel
theorem dX8_odds_57 : decode cX8_odds 57 = .ok (.istore 5, 2) := by decide +kernel
theorem dX8_odds_59 : decode cX8_odds 59 = .ok (.aload_n 0, 1) := by decide +kernel
theorem dX8_odds_60 : decode cX8_odds 60 = .ok (.getfield 20, 3) := by decide +kernel
theorem dX8_odds_63 : decode cX8_odds 63 = .ok (.iload_n 1, 1) := by decide +kernel
theorem dX8_odds_64 : decode cX8_odds 64 = .ok (.iload_n 2, 1) := by decide +kernel
theorem dX8_odds_65 : decode cX8_odds 65 = .ok (.invokevirtual 217, 3) := by decide +kernel
theorem dX8_odds_68 : decode cX8_odds 68 = .ok (.aload_n 0, 1) := by decide +kernel
theorem dX8_odds_69 : decode cX8_odds 69 = .ok (.getfield 41, 3) := by decide +kernel
theorem dX8_odds_72 : decode cX8_odds 72 = .ok (.getfield 224, 3) := by decide +kernel
theorem dX8_odds_75 : decode cX8_odds 75 = .ok (.iconst 3, 1) := by decide +kernel
theorem dX8_odds_76 : decode cX8_odds 76 = .ok (.iaload, 1) := by decide +kernel
theorem dX8_odds_77 : decode cX8_odds 77 = .ok (.if_icmp .ge 65, 3) := by decide +kernel
theorem dX8_odds_80 : decode cX8_odds 80 = .ok (.aload_n 0, 1) := by decide +kernel
theorem dX8_odds_81 : decode cX8_odds 81 = .ok (.getfield 20, 3) := by decide +kernel
theorem dX8_odds_84 : decode cX8_odds 84 = .ok (.iload_n 1, 1) := by decide +kernel
theorem dX8_odds_85 : decode cX8_odds 85 = .ok (.iload_n 2, 1) := by decide +kernel
theorem dX8_odds_86 : decode cX8_odds 86 = .ok (.invokevirtual 184, 3) := by decide +kernel
theorem dX8_odds_89 : decode cX8_odds 89 = .ok (.istore 6, 2) := by decide +kernel
theorem dX8_odds_91 : decode cX8_odds 91 = .ok (.iconst 0, 1) := by decide +kernel
theorem dX8_odds_92 : decode cX8_odds 92 = .ok (.istore 7, 2) := by decide +kernel
theorem dX8_odds_94 : decode cX8_odds 94 = .ok (.iload 7, 2) := by decide +kernel
theorem dX8_odds_96 : decode cX8_odds 96 = .ok (.bipush 8, 2) := by decide +kernel
theorem dX8_odds_98 : decode cX8_odds 98 = .ok (.if_icmp .ge 44, 3) := by decide +kernel
theorem dX8_odds_101 : decode cX8_odds 101 = .ok (.iload 6, 2) := by decide +kernel
theorem dX8_odds_103 : decode cX8_odds 103 = .ok (.iload 7, 2) := by decide +kernel
theorem dX8_odds_105 : decode cX8_odds 105 = .ok (.invokestatic 227, 3) := by decide +kernel
theorem dX8_odds_108 : decode cX8_odds 108 = .ok (.ifCond .eq 28, 3) := by decide +kernel
theorem dX8_odds_111 : decode cX8_odds 111 = .ok (.iload 4, 2) := by decide +kernel
theorem dX8_odds_113 : decode cX8_odds 113 = .ok (.bipush 16, 2) := by decide +kernel
theorem dX8_odds_115 : decode cX8_odds 115 = .ok (.aload_n 0, 1) := by decide +kernel
theorem dX8_odds_116 : decode cX8_odds 116 = .ok (.getfield 41, 3) := by decide +kernel
theorem dX8_odds_119 : decode cX8_odds 119 = .ok (.iload 7, 2) := by decide +kernel
theorem dX8_odds_121 : decode cX8_odds 121 = .ok (.iconst 3, 1) := by decide +kernel
theorem dX8_odds_122 : decode cX8_odds 122 = .ok (.invokevirtual 230, 3) := by decide +kernel
theorem dX8_odds_125 : decode cX8_odds 125 = .ok (.isub, 1) := by decide +kernel
theorem dX8_odds_126 : decode cX8_odds 126 = .ok (.imul, 1) := by decide +kernel
theorem dX8_odds_127 : decode cX8_odds 127 = .ok (.istore 4, 2) := by decide +kernel
theorem dX8_odds_129 : decode cX8_odds 129 = .ok (.iload 5, 2) := by decide +kernel
theorem dX8_odds_131 : decode cX8_odds 131 = .ok (.bipush 16, 2) := by decide +kernel
theorem dX8_odds_133 : decode cX8_odds 133 = .ok (.imul, 1) := by decide +kernel
theorem dX8_odds_134 : decode cX8_odds 134 = .ok (.istore 5, 2) := by decide +kernel
theorem dX8_odds_136 : decode cX8_odds 136 = .ok (.iinc 7 1, 3) := by decide +kernel
theorem dX8_odds_139 : decode cX8_odds 139 = .ok (.goto (-45), 3) := by decide +kernel
theorem dX8_odds_142 : decode cX8_odds 142 = .ok (.iload 4, 2) := by decide +kernel
theorem dX8_odds_144 : decode cX8_odds 144 = .ok (.iload 5, 2) := by decide +kernel
theorem dX8_odds_146 : decode cX8_odds 146 = .ok (.iload_n 3, 1) := by decide +kernel
theorem dX8_odds_147 : decode cX8_odds 147 = .ok (.invokestatic 233, 3) := by decide +kernel
theorem dX8_odds_150 : decode cX8_odds 150 = .ok (.lreturn, 1) := by decide +kernel
theorem dX8_seen_0 : decode cX8_seen 0 = .ok (.iload_n 1, 1) := by decide +kernel
theorem dX8_seen_1 : decode cX8_seen 1 = .ok (.bipush 7, 2) := by decide +kernel
theorem dX8_seen_3 : decode cX8_seen 3 = .ok (.invokestatic 74, 3) := by decide +kernel
theorem dX8_seen_6 : decode cX8_seen 6 = .ok (.ifCond .eq 20, 3) := by decide +kernel
theorem dX8_seen_9 : decode cX8_seen 9 = .ok (.iload_n 2, 1) := by decide +kernel
theorem dX8_seen_10 : decode cX8_seen 10 = .ok (.iconst 5, 1) := by decide +kernel
theorem dX8_seen_11 : decode cX8_seen 11 = .ok (.invokestatic 74, 3) := by decide +kernel
theorem dX8_seen_14 : decode cX8_seen 14 = .ok (.ifCond .eq 12, 3) := by decide +kernel
theorem dX8_seen_17 : decode cX8_seen 17 = .ok (.iload_n 3, 1) := by decide +kernel
theorem dX8_seen_18 : decode cX8_seen 18 = .ok (.bipush 7, 2) := by decide +kernel
theorem dX8_seen_20 : decode cX8_seen 20 = .ok (.invokestatic 74, 3) := by decide +kernel
theorem dX8_seen_23 : decode cX8_seen 23 = .ok (.ifCond .ne 6, 3) := by decide +kernel
theorem dX8_seen_26 : decode cX8_seen 26 = .ok (.bipush (-2), 2) := by decide +kernel
theorem dX8_seen_28 : decode cX8_seen 28 = .ok (.ireturn, 1) := by decide +kernel
theorem dX8_seen_29 : decode cX8_seen 29 = .ok (.aload_n 0, 1) := by decide +kernel
theorem dX8_seen_30 : decode cX8_seen 30 = .ok (.getfield 45, 3) := by decide +kernel
theorem dX8_seen_33 : decode cX8_seen 33 = .ok (.invokevirtual 237, 3) := by decide +kernel
theorem dX8_seen_36 : decode cX8_seen 36 = .ok (.ifCond .eq 8, 3) := by decide +kernel
theorem dX8_seen_39 : decode cX8_seen 39 = .ok (.bipush (-4), 2) := by decide +kernel
theorem dX8_seen_41 : decode cX8_seen 41 = .ok (.goto 13, 3) := by decide +kernel
theorem dX8_seen_44 : decode cX8_seen 44 = .ok (.aload_n 0, 1) := by decide +kernel
theorem dX8_seen_45 : decode cX8_seen 45 = .ok (.getfield 45, 3) := by decide +kernel
theorem dX8_seen_48 : decode cX8_seen 48 = .ok (.iload_n 1, 1) := by decide +kernel
theorem dX8_seen_49 : decode cX8_seen 49 = .ok (.iload_n 2, 1) := by decide +kernel
theorem dX8_seen_50 : decode cX8_seen 50 = .ok (.iload_n 3, 1) := by decide +kernel
theorem dX8_seen_51 : decode cX8_seen 51 = .ok (.invokevirtual 241, 3) := by decide +kernel
theorem dX8_seen_54 : decode cX8_seen 54 = .ok (.ireturn, 1) := by decide +kernel
theorem dX8_isFalse_0 : decode cX8_isFalse 0 = .ok (.iload_n 1, 1) := by decide +kernel
theorem dX8_isFalse_1 : decode cX8_isFalse 1 = .ok (.aload_n 0, 1) := by decide +kernel
theorem dX8_isFalse_2 : decode cX8_isFalse 2 = .ok (.getfield 45, 3) := by decide +kernel
theorem dX8_isFalse_5 : decode cX8_isFalse 5 = .ok (.getfield 244, 3) := by decide +kernel
theorem dX8_isFalse_8 : decode cX8_isFalse 8 = .ok (.iconst 1, 1) := by decide +kernel
theorem dX8_isFalse_9 : decode cX8_isFalse 9 = .ok (.isub, 1) := by decide +kernel
theorem dX8_isFalse_10 : decode cX8_isFalse 10 = .ok (.invokestatic 74, 3) := by decide +kernel
theorem dX8_isFalse_13 : decode cX8_isFalse 13 = .ok (.ifCond .eq 24, 3) := by decide +kernel
theorem dX8_isFalse_16 : decode cX8_isFalse 16 = .ok (.iload_n 2, 1) := by decide +kernel
theorem dX8_isFalse_17 : decode cX8_isFalse 17 = .ok (.aload_n 0, 1) := by decide +kernel
theorem dX8_isFalse_18 : decode cX8_isFalse 18 = .ok (.getfield 45, 3) := by decide +kernel
theorem dX8_isFalse_21 : decode cX8_isFalse 21 = .ok (.getfield 244, 3) := by decide +kernel
theorem dX8_isFalse_24 : decode cX8_isFalse 24 = .ok (.iconst 1, 1) := by decide +kernel
theorem dX8_isFalse_25 : decode cX8_isFalse 25 = .ok (.isub, 1) := by decide +kernel
theorem dX8_isFalse_26 : decode cX8_isFalse 26 = .ok (.invokestatic 74, 3) := by decide +kernel
theorem dX8_isFalse_29 : decode cX8_isFalse 29 = .ok (.ifCond .eq 8, 3) := by decide +kernel
theorem dX8_isFalse_32 : decode cX8_isFalse 32 = .ok (.iload_n 1, 1) := by decide +kernel
theorem dX8_isFalse_33 : decode cX8_isFalse 33 = .ok (.iload_n 2, 1) := by decide +kernel
theorem dX8_isFalse_34 : decode cX8_isFalse 34 = .ok (.if_icmp .ne 6, 3) := by decide +kernel
theorem dX8_isFalse_37 : decode cX8_isFalse 37 = .ok (.bipush (-2), 2) := by decide +kernel
theorem dX8_isFalse_39 : decode cX8_isFalse 39 = .ok (.ireturn, 1) := by decide +kernel
theorem dX8_isFalse_40 : decode cX8_isFalse 40 = .ok (.aload_n 0, 1) := by decide +kernel
theorem dX8_isFalse_41 : decode cX8_isFalse 41 = .ok (.getfield 45, 3) := by decide +kernel
theorem dX8_isFalse_44 : decode cX8_isFalse 44 = .ok (.iload_n 1, 1) := by decide +kernel
theorem dX8_isFalse_45 : decode cX8_isFalse 45 = .ok (.iload_n 2, 1) := by decide +kernel
theorem dX8_isFalse_46 : decode cX8_isFalse 46 = .ok (.invokevirtual 245, 3) := by decide +kernel
theorem dX8_isFalse_49 : decode cX8_isFalse 49 = .ok (.ifCond .eq 7, 3) := by decide +kernel
theorem dX8_isFalse_52 : decode cX8_isFalse 52 = .ok (.iconst 1, 1) := by decide +kernel
theorem dX8_isFalse_53 : decode cX8_isFalse 53 = .ok (.goto 4, 3) := by decide +kernel
theorem dX8_isFalse_56 : decode cX8_isFalse 56 = .ok (.iconst 0, 1) := by decide +kernel
theorem dX8_isFalse_57 : decode cX8_isFalse 57 = .ok (.ireturn, 1) := by decide +kernel
theorem dX8_hats_0 : decode cX8_hats 0 = .ok (.iload_n 1, 1) := by decide +kernel
theorem dX8_hats_1 : decode cX8_hats 1 = .ok (.iconst 1, 1) := by decide +kernel
theorem dX8_hats_2 : decode cX8_hats 2 = .ok (.invokestatic 74, 3) := by decide +kernel
theorem dX8_hats_5 : decode cX8_hats 5 = .ok (.ifCond .ne 6, 3) := by decide +kernel
theorem dX8_hats_8 : decode cX8_hats 8 = .ok (.bipush (-2), 2) := by decide +kernel
theorem dX8_hats_10 : decode cX8_hats 10 = .ok (.ireturn, 1) := by decide +kernel
theorem dX8_hats_11 : decode cX8_hats 11 = .ok (.aload_n 0, 1) := by decide +kernel
theorem dX8_hats_12 : decode cX8_hats 12 = .ok (.getfield 45, 3) := by decide +kernel
theorem dX8_hats_15 : decode cX8_hats 15 = .ok (.invokevirtual 248, 3) := by decide +kernel
theorem dX8_hats_18 : decode cX8_hats 18 = .ok (.istore_n 2, 1) := by decide +kernel
theorem dX8_hats_19 : decode cX8_hats 19 = .ok (.iload_n 1, 1) := by decide +kernel
theorem dX8_hats_20 : decode cX8_hats 20 = .ok (.ifCond .ne 10, 3) := by decide +kernel
theorem dX8_hats_23 : decode cX8_hats 23 = .ok (.iload_n 2, 1) := by decide +kernel
theorem dX8_hats_24 : decode cX8_hats 24 = .ok (.invokestatic 251, 3) := by decide +kernel
theorem dX8_hats_27 : decode cX8_hats 27 = .ok (.goto 4, 3) := by decide +kernel
theorem dX8_hats_30 : decode cX8_hats 30 = .ok (.iload_n 2, 1) := by decide +kernel
theorem dX8_hats_31 : decode cX8_hats 31 = .ok (.ireturn, 1) := by decide +kernel
theorem dX8_after_0 : decode cX8_after 0 = .ok (.iload_n 1, 1) := by decide +kernel
theorem dX8_after_1 : decode cX8_after 1 = .ok (.bipush 7, 2) := by decide +kernel
theorem dX8_after_3 : decode cX8_after 3 = .ok (.invokestatic 74, 3) := by decide +kernel
theorem dX8_after_6 : decode cX8_after 6 = .ok (.ifCond .eq 17, 3) := by decide +kernel
theorem dX8_after_9 : decode cX8_after 9 = .ok (.iload_n 2, 1) := by decide +kernel
theorem dX8_after_10 : decode cX8_after 10 = .ok (.bipush 7, 2) := by decide +kernel
theorem dX8_after_12 : decode cX8_after 12 = .ok (.invokestatic 74, 3) := by decide +kernel
theorem dX8_after_15 : decode cX8_after 15 = .ok (.ifCond .eq 8, 3) := by decide +kernel
theorem dX8_after_18 : decode cX8_after 18 = .ok (.iload_n 1, 1) := by decide +kernel
theorem dX8_after_19 : decode cX8_after 19 = .ok (.iload_n 2, 1) := by decide +kernel
theorem dX8_after_20 : decode cX8_after 20 = .ok (.if_icmp .ne 6, 3) := by decide +kernel
theorem dX8_after_23 : decode cX8_after 23 = .ok (.bipush (-2), 2) := by decide +kernel
theorem dX8_after_25 : decode cX8_after 25 = .ok (.ireturn, 1) := by decide +kernel
theorem dX8_after_26 : decode cX8_after 26 = .ok (.aload_n 0, 1) := by decide +kernel
theorem dX8_after_27 : decode cX8_after 27 = .ok (.getfield 52, 3) := by decide +kernel
theorem dX8_after_30 : decode cX8_after 30 = .ok (.invokevirtual 256, 3) := by decide +kernel
theorem dX8_after_33 : decode cX8_after 33 = .ok (.ifCond .eq 8, 3) := by decide +kernel
theorem dX8_after_36 : decode cX8_after 36 = .ok (.bipush (-4), 2) := by decide +kernel
theorem dX8_after_38 : decode cX8_after 38 = .ok (.goto 12, 3) := by decide +kernel
theorem dX8_after_41 : decode cX8_after 41 = .ok (.aload_n 0, 1) := by decide +kernel
theorem dX8_after_42 : decode cX8_after 42 = .ok (.getfield 52, 3) := by decide +kernel
theorem dX8_after_45 : decode cX8_after 45 = .ok (.iload_n 1, 1) := by decide +kernel
theorem dX8_after_46 : decode cX8_after 46 = .ok (.iload_n 2, 1) := by decide +kernel
theorem dX8_after_47 : decode cX8_after 47 = .ok (.invokevirtual 257, 3) := by decide +kernel
theorem dX8_after_50 : decode cX8_after 50 = .ok (.ireturn, 1) := by decide +kernel
theorem dX8_forget_0 : decode cX8_forget 0 = .ok (.iload_n 1, 1) := by decide +kernel
theorem dX8_forget_1 : decode cX8_forget 1 = .ok (.iconst 1, 1) := by decide +kernel
theorem dX8_forget_2 : decode cX8_forget 2 = .ok (.invokestatic 74, 3) := by decide +kernel
theorem dX8_forget_5 : decode cX8_forget 5 = .ok (.ifCond .ne 6, 3) := by decide +kernel
theorem dX8_forget_8 : decode cX8_forget 8 = .ok (.bipush (-2), 2) := by decide +kernel
theorem dX8_forget_10 : decode cX8_forget 10 = .ok (.ireturn, 1) := by decide +kernel
theorem dX8_forget_11 : decode cX8_forget 11 = .ok (.iload_n 1, 1) := by decide +kernel
theorem dX8_forget_12 : decode cX8_forget 12 = .ok (.ifCond .ne 13, 3) := by decide +kernel
theorem dX8_forget_15 : decode cX8_forget 15 = .ok (.aload_n 0, 1) := by decide +kernel
theorem dX8_forget_16 : decode cX8_forget 16 = .ok (.getfield 45, 3) := by decide +kernel
theorem dX8_forget_19 : decode cX8_forget 19 = .ok (.invokevirtual 259, 3) := by decide +kernel
theorem dX8_forget_22 : decode cX8_forget 22 = .ok (.goto 10, 3) := by decide +kernel
theorem dX8_forget_25 : decode cX8_forget 25 = .ok (.aload_n 0, 1) := by decide +kernel
theorem dX8_forget_26 : decode cX8_forget 26 = .ok (.getfield 52, 3) := by decide +kernel
theorem dX8_forget_29 : decode cX8_forget 29 = .ok (.invokevirtual 260, 3) := by decide +kernel
theorem dX8_forget_32 : decode cX8_forget 32 = .ok (.ireturn, 1) := by decide +kernel
theorem dX8_spared_0 : decode cX8_spared 0 = .ok (.iload_n 1, 1) := by decide +kernel
theorem dX8_spared_1 : decode cX8_spared 1 = .ok (.aload_n 0, 1) := by decide +kernel
theorem dX8_spared_2 : decode cX8_spared 2 = .ok (.getfield 27, 3) := by decide +kernel
theorem dX8_spared_5 : decode cX8_spared 5 = .ok (.invokevirtual 261, 3) := by decide +kernel
theorem dX8_spared_8 : decode cX8_spared 8 = .ok (.invokestatic 74, 3) := by decide +kernel
theorem dX8_spared_11 : decode cX8_spared 11 = .ok (.ifCond .ne 6, 3) := by decide +kernel
theorem dX8_spared_14 : decode cX8_spared 14 = .ok (.bipush (-2), 2) := by decide +kernel
theorem dX8_spared_16 : decode cX8_spared 16 = .ok (.ireturn, 1) := by decide +kernel
theorem dX8_spared_17 : decode cX8_spared 17 = .ok (.aload_n 0, 1) := by decide +kernel
theorem dX8_spared_18 : decode cX8_spared 18 = .ok (.iload_n 1, 1) := by decide +kernel
theorem dX8_spared_19 : decode cX8_spared 19 = .ok (.invokevirtual 264, 3) := by decide +kernel
theorem dX8_spared_22 : decode cX8_spared 22 = .ok (.ireturn, 1) := by decide +kernel
theorem dX8_best_0 : decode cX8_best 0 = .ok (.iconst (-1), 1) := by decide +kernel
theorem dX8_best_1 : decode cX8_best 1 = .ok (.istore_n 1, 1) := by decide +kernel
theorem dX8_best_2 : decode cX8_best 2 = .ok (.iconst 0, 1) := by decide +kernel
theorem dX8_best_3 : decode cX8_best 3 = .ok (.istore_n 2, 1) := by decide +kernel
theorem dX8_best_4 : decode cX8_best 4 = .ok (.iconst 0, 1) := by decide +kernel
theorem dX8_best_5 : decode cX8_best 5 = .ok (.istore_n 3, 1) := by decide +kernel
theorem dX8_best_6 : decode cX8_best 6 = .ok (.iload_n 3, 1) := by decide +kernel
theorem dX8_best_7 : decode cX8_best 7 = .ok (.aload_n 0, 1) := by decide +kernel
theorem dX8_best_8 : decode cX8_best 8 = .ok (.getfield 27, 3) := by decide +kernel
theorem dX8_best_11 : decode cX8_best 11 = .ok (.getfield 201, 3) := by decide +kernel
theorem dX8_best_14 : decode cX8_best 14 = .ok (.if_icmp .ge 39, 3) := by decide +kernel
theorem dX8_best_17 : decode cX8_best 17 = .ok (.aload_n 0, 1) := by decide +kernel
theorem dX8_best_18 : decode cX8_best 18 = .ok (.getfield 27, 3) := by decide +kernel
theorem dX8_best_21 : decode cX8_best 21 = .ok (.getfield 117, 3) := by decide +kernel
theorem dX8_best_24 : decode cX8_best 24 = .ok (.iload_n 3, 1) := by decide +kernel
theorem dX8_best_25 : decode cX8_best 25 = .ok (.iaload, 1) := by decide +kernel
theorem dX8_best_26 : decode cX8_best 26 = .ok (.aload_n 0, 1) := by decide +kernel
theorem dX8_best_27 : decode cX8_best 27 = .ok (.iconst 1, 1) := by decide +kernel
theorem dX8_best_28 : decode cX8_best 28 = .ok (.iload_n 3, 1) := by decide +kernel
theorem dX8_best_29 : decode cX8_best 29 = .ok (.ishl, 1) := by decide +kernel
theorem dX8_best_30 : decode cX8_best 30 = .ok (.invokevirtual 264, 3) := by decide +kernel
theorem dX8_best_33 : decode cX8_best 33 = .ok (.iadd, 1) := by decide +kernel
theorem dX8_best_34 : decode cX8_best 34 = .ok (.istore 4, 2) := by decide +kernel
theorem dX8_best_36 : decode cX8_best 36 = .ok (.iload 4, 2) := by decide +kernel
theorem dX8_best_38 : decode cX8_best 38 = .ok (.iload_n 2, 1) := by decide +kernel
theorem dX8_best_39 : decode cX8_best 39 = .ok (.if_icmp .le 8, 3) := by decide +kernel
theorem dX8_best_42 : decode cX8_best 42 = .ok (.iload_n 3, 1) := by decide +kernel
theorem dX8_best_43 : decode cX8_best 43 = .ok (.istore_n 1, 1) := by decide +kernel
theorem dX8_best_44 : decode cX8_best 44 = .ok (.iload 4, 2) := by decide +kernel
theorem dX8_best_46 : decode cX8_best 46 = .ok (.istore_n 2, 1) := by decide +kernel
theorem dX8_best_47 : decode cX8_best 47 = .ok (.iinc 3 1, 3) := by decide +kernel
theorem dX8_best_50 : decode cX8_best 50 = .ok (.goto (-44), 3) := by decide +kernel
theorem dX8_best_53 : decode cX8_best 53 = .ok (.iload_n 1, 1) := by decide +kernel
theorem dX8_best_54 : decode cX8_best 54 = .ok (.ireturn, 1) := by decide +kernel
theorem dX8_regrets_0 : decode cX8_regrets 0 = .ok (.iload_n 1, 1) := by decide +kernel
theorem dX8_regrets_1 : decode cX8_regrets 1 = .ok (.bipush 8, 2) := by decide +kernel
theorem dX8_regrets_3 : decode cX8_regrets 3 = .ok (.invokestatic 74, 3) := by decide +kernel
theorem dX8_regrets_6 : decode cX8_regrets 6 = .ok (.ifCond .eq 11, 3) := by decide +kernel
theorem dX8_regrets_9 : decode cX8_regrets 9 = .ok (.iload_n 2, 1) := by decide +kernel
theorem dX8_regrets_10 : decode cX8_regrets 10 = .ok (.iconst 1, 1) := by decide +kernel
theorem dX8_regrets_11 : decode cX8_regrets 11 = .ok (.invokestatic 74, 3) := by decide +kernel
theorem dX8_regrets_14 : decode cX8_regrets 14 = .ok (.ifCond .ne 9, 3) := by decide +kernel
theorem dX8_regrets_17 : decode cX8_regrets 17 = .ok (.bipush (-2), 2) := by decide +kernel
theorem dX8_regrets_19 : decode cX8_regrets 19 = .ok (.invokestatic 220, 3) := by decide +kernel
theorem dX8_regrets_22 : decode cX8_regrets 22 = .ok (.lreturn, 1) := by decide +kernel
theorem dX8_regrets_23 : decode cX8_regrets 23 = .ok (.aload_n 0, 1) := by decide +kernel
theorem dX8_regrets_24 : decode cX8_regrets 24 = .ok (.invokevirtual 175, 3) := by decide +kernel
theorem dX8_regrets_27 : decode cX8_regrets 27 = .ok (.iload_n 1, 1) := by decide +kernel
theorem dX8_regrets_28 : decode cX8_regrets 28 = .ok (.aload_n 0, 1) := by decide +kernel
theorem dX8_regrets_29 : decode cX8_regrets 29 = .ok (.getfield 27, 3) := by decide +kernel
theorem dX8_regrets_32 : decode cX8_regrets 32 = .ok (.getfield 201, 3) := by decide +kernel
theorem dX8_regrets_35 : decode cX8_regrets 35 = .ok (.if_icmp .le 9, 3) := by decide +kernel
theorem dX8_regrets_38 : decode cX8_regrets 38 = .ok (.bipush (-3), 2) := by decide +kernel
theorem dX8_regrets_40 : decode cX8_regrets 40 = .ok (.invokestatic 220, 3) := by decide +kernel
theorem dX8_regrets_43 : decode cX8_regrets 43 = .ok (.lreturn, 1) := by decide +kernel
theorem dX8_regrets_44 : decode cX8_regrets 44 = .ok (.aload_n 0, 1) := by decide +kernel
theorem dX8_regrets_45 : decode cX8_regrets 45 = .ok (.getfield 27, 3) := by decide +kernel
theorem dX8_regrets_48 : decode cX8_regrets 48 = .ok (.getfield 201, 3) := by decide +kernel
theorem dX8_regrets_51 : decode cX8_regrets 51 = .ok (.aload_n 0, 1) := by decide +kernel
theorem dX8_regrets_52 : decode cX8_regrets 52 = .ok (.getfield 20, 3) := by decide +kernel
theorem dX8_regrets_55 : decode cX8_regrets 55 = .ok (.invokevirtual 267, 3) := by decide +kernel
theorem dX8_regrets_58 : decode cX8_regrets 58 = .ok (.invokestatic 251, 3) := by decide +kernel
theorem dX8_regrets_61 : decode cX8_regrets 61 = .ok (.isub, 1) := by decide +kernel
theorem dX8_regrets_62 : decode cX8_regrets 62 = .ok (.istore_n 3, 1) := by decide +kernel
theorem dX8_regrets_63 : decode cX8_regrets 63 = .ok (.iconst 1, 1) := by decide +kernel
theorem dX8_regrets_64 : decode cX8_regrets 64 = .ok (.istore 4, 2) := by decide +kernel
theorem dX8_regrets_66 : decode cX8_regrets 66 = .ok (.iconst 1, 1) := by decide +kernel
theorem dX8_regrets_67 : decode cX8_regrets 67 = .ok (.istore 5, 2) := by decide +kernel
theorem dX8_regrets_69 : decode cX8_regrets 69 = .ok (.iconst 0, 1) := by decide +kernel
theorem dX8_regrets_70 : decode cX8_regrets 70 = .ok (.istore 6, 2) := by decide +kernel
theorem dX8_regrets_72 : decode cX8_regrets 72 = .ok (.iload 6, 2) := by decide +kernel
theorem dX8_regrets_74 : decode cX8_regrets 74 = .ok (.iload_n 1, 1) := by decide +kernel
theorem dX8_regrets_75 : decode cX8_regrets 75 = .ok (.if_icmp .ge 37, 3) := by decide +kernel
theorem dX8_regrets_78 : decode cX8_regrets 78 = .ok (.iload 4, 2) := by decide +kernel
theorem dX8_regrets_80 : decode cX8_regrets 80 = .ok (.iconst 0, 1) := by decide +kernel
theorem dX8_regrets_81 : decode cX8_regrets 81 = .ok (.iload_n 3, 1) := by decide +kernel
theorem dX8_regrets_82 : decode cX8_regrets 82 = .ok (.iload 6, 2) := by decide +kernel
theorem dX8_regrets_84 : decode cX8_regrets 84 = .ok (.isub, 1) := by decide +kernel
theorem dX8_regrets_85 : decode cX8_regrets 85 = .ok (.invokestatic 270, 3) := by decide +kernel
theorem dX8_regrets_88 : decode cX8_regrets 88 = .ok (.imul, 1) := by decide +kernel
theorem dX8_regrets_89 : decode cX8_regrets 89 = .ok (.istore 4, 2) := by decide +kernel
theorem dX8_regrets_91 : decode cX8_regrets 91 = .ok (.iload 5, 2) := by decide +kernel
theorem dX8_regrets_93 : decode cX8_regrets 93 = .ok (.aload_n 0, 1) := by decide +kernel
theorem dX8_regrets_94 : decode cX8_regrets 94 = .ok (.getfield 27, 3) := by decide +kernel
theorem dX8_regrets_97 : decode cX8_regrets 97 = .ok (.getfield 201, 3) := by decide +kernel
theorem dX8_regrets_100 : decode cX8_regrets 100 = .ok (.iload 6, 2) := by decide +kernel
theorem dX8_regrets_102 : decode cX8_regrets 102 = .ok (.isub, 1) := by decide +kernel
theorem dX8_regrets_103 : decode cX8_regrets 103 = .ok (.imul, 1) := by decide +kernel
theorem dX8_regrets_104 : decode cX8_regrets 104 = .ok (.istore 5, 2) := by decide +kernel
theorem dX8_regrets_106 : decode cX8_regrets 106 = .ok (.iinc 6 1, 3) := by decide +kernel
theorem dX8_regrets_109 : decode cX8_regrets 109 = .ok (.goto (-37), 3) := by decide +kernel
theorem dX8_regrets_112 : decode cX8_regrets 112 = .ok (.iload 4, 2) := by decide +kernel
theorem dX8_regrets_114 : decode cX8_regrets 114 = .ok (.iload 5, 2) := by decide +kernel
theorem dX8_regrets_116 : decode cX8_regrets 116 = .ok (.iload_n 2, 1) := by decide +kernel
theorem dX8_regrets_117 : decode cX8_regrets 117 = .ok (.invokestatic 233, 3) := by decide +kernel
theorem dX8_regrets_120 : decode cX8_regrets 120 = .ok (.lreturn, 1) := by decide +kernel
theorem dX8_sheet_0 : decode cX8_sheet 0 = .ok (.iload_n 1, 1) := by decide +kernel
theorem dX8_sheet_1 : decode cX8_sheet 1 = .ok (.invokestatic 151, 3) := by decide +kernel
theorem dX8_sheet_4 : decode cX8_sheet 4 = .ok (.ifCond .eq 16, 3) := by decide +kernel
theorem dX8_sheet_7 : decode cX8_sheet 7 = .ok (.iload_n 2, 1) := by decide +kernel
theorem dX8_sheet_8 : decode cX8_sheet 8 = .ok (.invokestatic 273, 3) := by decide +kernel
theorem dX8_sheet_11 : decode cX8_sheet 11 = .ok (.ifCond .eq 9, 3) := by decide +kernel
theorem dX8_sheet_14 : decode cX8_sheet 14 = .ok (.iload_n 3, 1) := by decide +kernel
theorem dX8_sheet_15 : decode cX8_sheet 15 = .ok (.bipush 60, 2) := by decide +kernel
theorem dX8_sheet_17 : decode cX8_sheet 17 = .ok (.if_icmp .le 6, 3) := by decide +kernel
theorem dX8_sheet_20 : decode cX8_sheet 20 = .ok (.bipush (-2), 2) := by decide +kernel
theorem dX8_sheet_22 : decode cX8_sheet 22 = .ok (.ireturn, 1) := by decide +kernel
theorem dX8_sheet_23 : decode cX8_sheet 23 = .ok (.iload_n 3, 1) := by decide +kernel
theorem dX8_sheet_24 : decode cX8_sheet 24 = .ok (.ifCond .ge 14, 3) := by decide +kernel
theorem dX8_sheet_27 : decode cX8_sheet 27 = .ok (.aload_n 0, 1) := by decide +kernel
theorem dX8_sheet_28 : decode cX8_sheet 28 = .ok (.getfield 59, 3) := by decide +kernel
theorem dX8_sheet_31 : decode cX8_sheet 31 = .ok (.iconst 5, 1) := by decide +kernel
theorem dX8_sheet_32 : decode cX8_sheet 32 = .ok (.invokevirtual 157, 3) := by decide +kernel
theorem dX8_sheet_35 : decode cX8_sheet 35 = .ok (.goto 13, 3) := by decide +kernel
theorem dX8_sheet_38 : decode cX8_sheet 38 = .ok (.aload_n 0, 1) := by decide +kernel
theorem dX8_sheet_39 : decode cX8_sheet 39 = .ok (.getfield 59, 3) := by decide +kernel
theorem dX8_sheet_42 : decode cX8_sheet 42 = .ok (.iload_n 1, 1) := by decide +kernel
theorem dX8_sheet_43 : decode cX8_sheet 43 = .ok (.iload_n 2, 1) := by decide +kernel
theorem dX8_sheet_44 : decode cX8_sheet 44 = .ok (.iload_n 3, 1) := by decide +kernel
theorem dX8_sheet_45 : decode cX8_sheet 45 = .ok (.invokevirtual 276, 3) := by decide +kernel
theorem dX8_sheet_48 : decode cX8_sheet 48 = .ok (.ireturn, 1) := by decide +kernel
theorem dX8_lose_0 : decode cX8_lose 0 = .ok (.iload_n 1, 1) := by decide +kernel
theorem dX8_lose_1 : decode cX8_lose 1 = .ok (.invokestatic 151, 3) := by decide +kernel
theorem dX8_lose_4 : decode cX8_lose 4 = .ok (.ifCond .ne 6, 3) := by decide +kernel
theorem dX8_lose_7 : decode cX8_lose 7 = .ok (.bipush (-2), 2) := by decide +kernel
theorem dX8_lose_9 : decode cX8_lose 9 = .ok (.ireturn, 1) := by decide +kernel
theorem dX8_lose_10 : decode cX8_lose 10 = .ok (.aload_n 0, 1) := by decide +kernel
theorem dX8_lose_11 : decode cX8_lose 11 = .ok (.getfield 59, 3) := by decide +kernel
theorem dX8_lose_14 : decode cX8_lose 14 = .ok (.iload_n 1, 1) := by decide +kernel
theorem dX8_lose_15 : decode cX8_lose 15 = .ok (.invokevirtual 154, 3) := by decide +kernel
theorem dX8_lose_18 : decode cX8_lose 18 = .ok (.ifCond .eq 14, 3) := by decide +kernel
theorem dX8_lose_21 : decode cX8_lose 21 = .ok (.aload_n 0, 1) := by decide +kernel
theorem dX8_lose_22 : decode cX8_lose 22 = .ok (.getfield 59, 3) := by decide +kernel
theorem dX8_lose_25 : decode cX8_lose 25 = .ok (.iconst 1, 1) := by decide +kernel
theorem dX8_lose_26 : decode cX8_lose 26 = .ok (.invokevirtual 157, 3) := by decide +kernel
theorem dX8_lose_29 : decode cX8_lose 29 = .ok (.goto 11, 3) := by decide +kernel
theorem dX8_lose_32 : decode cX8_lose 32 = .ok (.aload_n 0, 1) := by decide +kernel
theorem dX8_lose_33 : decode cX8_lose 33 = .ok (.getfield 59, 3) := by decide +kernel
theorem dX8_lose_36 : decode cX8_lose 36 = .ok (.iload_n 1, 1) := by decide +kernel
theorem dX8_lose_37 : decode cX8_lose 37 = .ok (.invokevirtual 279, 3) := by decide +kernel
theorem dX8_lose_40 : decode cX8_lose 40 = .ok (.ireturn, 1) := by decide +kernel
theorem dX8_put_0 : decode cX8_put 0 = .ok (.iload_n 1, 1) := by decide +kernel
theorem dX8_put_1 : decode cX8_put 1 = .ok (.invokestatic 151, 3) := by decide +kernel
theorem dX8_put_4 : decode cX8_put 4 = .ok (.ifCond .eq 10, 3) := by decide +kernel
theorem dX8_put_7 : decode cX8_put 7 = .ok (.iload_n 2, 1) := by decide +kernel
theorem dX8_put_8 : decode cX8_put 8 = .ok (.invokestatic 273, 3) := by decide +kernel
theorem dX8_put_11 : decode cX8_put 11 = .ok (.ifCond .ne 6, 3) := by decide +kernel
theorem dX8_put_14 : decode cX8_put 14 = .ok (.bipush (-2), 2) := by decide +kernel
theorem dX8_put_16 : decode cX8_put 16 = .ok (.ireturn, 1) := by decide +kernel
theorem dX8_put_17 : decode cX8_put 17 = .ok (.aload_n 0, 1) := by decide +kernel
theorem dX8_put_18 : decode cX8_put 18 = .ok (.getfield 59, 3) := by decide +kernel
theorem dX8_put_21 : decode cX8_put 21 = .ok (.iload_n 1, 1) := by decide +kernel
theorem dX8_put_22 : decode cX8_put 22 = .ok (.iload_n 2, 1) := by decide +kernel
theorem dX8_put_23 : decode cX8_put 23 = .ok (.iload_n 3, 1) := by decide +kernel
theorem dX8_put_24 : decode cX8_put 24 = .ok (.invokevirtual 282, 3) := by decide +kernel
theorem dX8_put_27 : decode cX8_put 27 = .ok (.istore 5, 2) := by decide +kernel
theorem dX8_put_29 : decode cX8_put 29 = .ok (.iload 5, 2) := by decide +kernel
theorem dX8_put_31 : decode cX8_put 31 = .ok (.ifCond .eq 13, 3) := by decide +kernel
theorem dX8_put_34 : decode cX8_put 34 = .ok (.aload_n 0, 1) := by decide +kernel
theorem dX8_put_35 : decode cX8_put 35 = .ok (.getfield 59, 3) := by decide +kernel
theorem dX8_put_38 : decode cX8_put 38 = .ok (.iload 5, 2) := by decide +kernel
theorem dX8_put_40 : decode cX8_put 40 = .ok (.invokevirtual 157, 3) := by decide +kernel
theorem dX8_put_43 : decode cX8_put 43 = .ok (.ireturn, 1) := by decide +kernel
theorem dX8_put_44 : decode cX8_put 44 = .ok (.aload_n 0, 1) := by decide +kernel
theorem dX8_put_45 : decode cX8_put 45 = .ok (.getfield 59, 3) := by decide +kernel
theorem dX8_put_48 : decode cX8_put 48 = .ok (.iload_n 1, 1) := by decide +kernel
theorem dX8_put_49 : decode cX8_put 49 = .ok (.iload_n 3, 1) := by decide +kernel
theorem dX8_put_50 : decode cX8_put 50 = .ok (.iload 4, 2) := by decide +kernel
theorem dX8_put_52 : decode cX8_put 52 = .ok (.invokevirtual 285, 3) := by decide +kernel
theorem dX8_put_55 : decode cX8_put 55 = .ok (.iconst 1, 1) := by decide +kernel
theorem dX8_put_56 : decode cX8_put 56 = .ok (.ireturn, 1) := by decide +kernel
theorem dX8_get_0 : decode cX8_get 0 = .ok (.iload_n 1, 1) := by decide +kernel
theorem dX8_get_1 : decode cX8_get 1 = .ok (.invokestatic 151, 3) := by decide +kernel
theorem dX8_get_4 : decode cX8_get 4 = .ok (.ifCond .eq 10, 3) := by decide +kernel
theorem dX8_get_7 : decode cX8_get 7 = .ok (.iload_n 2, 1) := by decide +kernel
theorem dX8_get_8 : decode cX8_get 8 = .ok (.invokestatic 273, 3) := by decide +kernel
theorem dX8_get_11 : decode cX8_get 11 = .ok (.ifCond .ne 7, 3) := by decide +kernel
theorem dX8_get_14 : decode cX8_get 14 = .ok (.ldc_w 289, 3) := by decide +kernel
theorem dX8_get_17 : decode cX8_get 17 = .ok (.ireturn, 1) := by decide +kernel
theorem dX8_get_18 : decode cX8_get 18 = .ok (.aload_n 0, 1) := by decide +kernel
theorem dX8_get_19 : decode cX8_get 19 = .ok (.getfield 59, 3) := by decide +kernel
theorem dX8_get_22 : decode cX8_get 22 = .ok (.iload_n 1, 1) := by decide +kernel
theorem dX8_get_23 : decode cX8_get 23 = .ok (.iload_n 2, 1) := by decide +kernel
theorem dX8_get_24 : decode cX8_get 24 = .ok (.iload_n 3, 1) := by decide +kernel
theorem dX8_get_25 : decode cX8_get 25 = .ok (.invokevirtual 282, 3) := by decide +kernel
theorem dX8_get_28 : decode cX8_get 28 = .ok (.istore 4, 2) := by decide +kernel
theorem dX8_get_30 : decode cX8_get 30 = .ok (.iload 4, 2) := by decide +kernel
theorem dX8_get_32 : decode cX8_get 32 = .ok (.ifCond .eq 17, 3) := by decide +kernel
theorem dX8_get_35 : decode cX8_get 35 = .ok (.aload_n 0, 1) := by decide +kernel
theorem dX8_get_36 : decode cX8_get 36 = .ok (.getfield 59, 3) := by decide +kernel
theorem dX8_get_39 : decode cX8_get 39 = .ok (.iload 4, 2) := by decide +kernel
theorem dX8_get_41 : decode cX8_get 41 = .ok (.invokevirtual 157, 3) := by decide +kernel
theorem dX8_get_44 : decode cX8_get 44 = .ok (.pop, 1) := by decide +kernel
theorem dX8_get_45 : decode cX8_get 45 = .ok (.ldc_w 289, 3) := by decide +kernel
theorem dX8_get_48 : decode cX8_get 48 = .ok (.ireturn, 1) := by decide +kernel
theorem dX8_get_49 : decode cX8_get 49 = .ok (.aload_n 0, 1) := by decide +kernel
theorem dX8_get_50 : decode cX8_get 50 = .ok (.getfield 59, 3) := by decide +kernel
theorem dX8_get_53 : decode cX8_get 53 = .ok (.getfield 168, 3) := by decide +kernel
theorem dX8_get_56 : decode cX8_get 56 = .ok (.iload_n 1, 1) := by decide +kernel
theorem dX8_get_57 : decode cX8_get 57 = .ok (.aaload, 1) := by decide +kernel
theorem dX8_get_58 : decode cX8_get 58 = .ok (.iload_n 3, 1) := by decide +kernel
theorem dX8_get_59 : decode cX8_get 59 = .ok (.iaload, 1) := by decide +kernel
theorem dX8_get_60 : decode cX8_get 60 = .ok (.ireturn, 1) := by decide +kernel
theorem dX8_copy_0 : decode cX8_copy 0 = .ok (.iload_n 1, 1) := by decide +kernel
theorem dX8_copy_1 : decode cX8_copy 1 = .ok (.invokestatic 151, 3) := by decide +kernel
theorem dX8_copy_4 : decode cX8_copy 4 = .ok (.ifCond .eq 10, 3) := by decide +kernel
theorem dX8_copy_7 : decode cX8_copy 7 = .ok (.iload_n 3, 1) := by decide +kernel
theorem dX8_copy_8 : decode cX8_copy 8 = .ok (.invokestatic 151, 3) := by decide +kernel
theorem dX8_copy_11 : decode cX8_copy 11 = .ok (.ifCond .ne 6, 3) := by decide +kernel
theorem dX8_copy_14 : decode cX8_copy 14 = .ok (.bipush (-2), 2) := by decide +kernel
theorem dX8_copy_16 : decode cX8_copy 16 = .ok (.ireturn, 1) := by decide +kernel
theorem dX8_copy_17 : decode cX8_copy 17 = .ok (.aload_n 0, 1) := by decide +kernel
theorem dX8_copy_18 : decode cX8_copy 18 = .ok (.getfield 59, 3) := by decide +kernel
theorem dX8_copy_21 : decode cX8_copy 21 = .ok (.iload_n 1, 1) := by decide +kernel
theorem dX8_copy_22 : decode cX8_copy 22 = .ok (.invokevirtual 154, 3) := by decide +kernel
theorem dX8_copy_25 : decode cX8_copy 25 = .ok (.ifCond .ne 14, 3) := by decide +kernel
theorem dX8_copy_28 : decode cX8_copy 28 = .ok (.aload_n 0, 1) := by decide +kernel
theorem dX8_copy_29 : decode cX8_copy 29 = .ok (.getfield 59, 3) := by decide +kernel
theorem dX8_copy_32 : decode cX8_copy 32 = .ok (.iload_n 3, 1) := by decide +kernel
theorem dX8_copy_33 : decode cX8_copy 33 = .ok (.invokevirtual 154, 3) := by decide +kernel
theorem dX8_copy_36 : decode cX8_copy 36 = .ok (.ifCond .eq 12, 3) := by decide +kernel
theorem dX8_copy_39 : decode cX8_copy 39 = .ok (.aload_n 0, 1) := by decide +kernel
theorem dX8_copy_40 : decode cX8_copy 40 = .ok (.getfield 59, 3) := by decide +kernel
theorem dX8_copy_43 : decode cX8_copy 43 = .ok (.iconst 1, 1) := by decide +kernel
theorem dX8_copy_44 : decode cX8_copy 44 = .ok (.invokevirtual 157, 3) := by decide +kernel
theorem dX8_copy_47 : decode cX8_copy 47 = .ok (.ireturn, 1) := by decide +kernel
theorem dX8_copy_48 : decode cX8_copy 48 = .ok (.aload_n 0, 1) := by decide +kernel
theorem dX8_copy_49 : decode cX8_copy 49 = .ok (.getfield 59, 3) := by decide +kernel
theorem dX8_copy_52 : decode cX8_copy 52 = .ok (.getfield 290, 3) := by decide +kernel
theorem dX8_copy_55 : decode cX8_copy 55 = .ok (.iload_n 1, 1) := by decide +kernel
theorem dX8_copy_56 : decode cX8_copy 56 = .ok (.iaload, 1) := by decide +kernel
theorem dX8_copy_57 : decode cX8_copy 57 = .ok (.aload_n 0, 1) := by decide +kernel
theorem dX8_copy_58 : decode cX8_copy 58 = .ok (.getfield 59, 3) := by decide +kernel
theorem dX8_copy_61 : decode cX8_copy 61 = .ok (.getfield 290, 3) := by decide +kernel
theorem dX8_copy_64 : decode cX8_copy 64 = .ok (.iload_n 3, 1) := by decide +kernel
theorem dX8_copy_65 : decode cX8_copy 65 = .ok (.iaload, 1) := by decide +kernel
theorem dX8_copy_66 : decode cX8_copy 66 = .ok (.if_icmp .eq 12, 3) := by decide +kernel
theorem dX8_copy_69 : decode cX8_copy 69 = .ok (.aload_n 0, 1) := by decide +kernel
theorem dX8_copy_70 : decode cX8_copy 70 = .ok (.getfield 59, 3) := by decide +kernel
theorem dX8_copy_73 : decode cX8_copy 73 = .ok (.iconst 4, 1) := by decide +kernel
theorem dX8_copy_74 : decode cX8_copy 74 = .ok (.invokevirtual 157, 3) := by decide +kernel
theorem dX8_copy_77 : decode cX8_copy 77 = .ok (.ireturn, 1) := by decide +kernel
theorem dX8_copy_78 : decode cX8_copy 78 = .ok (.aload_n 0, 1) := by decide +kernel
theorem dX8_copy_79 : decode cX8_copy 79 = .ok (.getfield 59, 3) := by decide +kernel
theorem dX8_copy_82 : decode cX8_copy 82 = .ok (.iload_n 1, 1) := by decide +kernel
theorem dX8_copy_83 : decode cX8_copy 83 = .ok (.iload_n 2, 1) := by decide +kernel
theorem dX8_copy_84 : decode cX8_copy 84 = .ok (.iload 5, 2) := by decide +kernel
theorem dX8_copy_86 : decode cX8_copy 86 = .ok (.invokevirtual 293, 3) := by decide +kernel
theorem dX8_copy_89 : decode cX8_copy 89 = .ok (.ifCond .eq 18, 3) := by decide +kernel
theorem dX8_copy_92 : decode cX8_copy 92 = .ok (.aload_n 0, 1) := by decide +kernel
theorem dX8_copy_93 : decode cX8_copy 93 = .ok (.getfield 59, 3) := by decide +kernel
theorem dX8_copy_96 : decode cX8_copy 96 = .ok (.iload_n 3, 1) := by decide +kernel
theorem dX8_copy_97 : decode cX8_copy 97 = .ok (.iload 4, 2) := by decide +kernel
theorem dX8_copy_99 : decode cX8_copy 99 = .ok (.iload 5, 2) := by decide +kernel
theorem dX8_copy_101 : decode cX8_copy 101 = .ok (.invokevirtual 293, 3) := by decide +kernel
theorem dX8_copy_104 : decode cX8_copy 104 = .ok (.ifCond .ne 12, 3) := by decide +kernel
theorem dX8_copy_107 : decode cX8_copy 107 = .ok (.aload_n 0, 1) := by decide +kernel
theorem dX8_copy_108 : decode cX8_copy 108 = .ok (.getfield 59, 3) := by decide +kernel
theorem dX8_copy_111 : decode cX8_copy 111 = .ok (.iconst 2, 1) := by decide +kernel
theorem dX8_copy_112 : decode cX8_copy 112 = .ok (.invokevirtual 157, 3) := by decide +kernel
theorem dX8_copy_115 : decode cX8_copy 115 = .ok (.ireturn, 1) := by decide +kernel
theorem dX8_copy_116 : decode cX8_copy 116 = .ok (.aload_n 0, 1) := by decide +kernel
theorem dX8_copy_117 : decode cX8_copy 117 = .ok (.getfield 59, 3) := by decide +kernel
theorem dX8_copy_120 : decode cX8_copy 120 = .ok (.getfield 168, 3) := by decide +kernel
theorem dX8_copy_123 : decode cX8_copy 123 = .ok (.iload_n 1, 1) := by decide +kernel
theorem dX8_copy_124 : decode cX8_copy 124 = .ok (.aaload, 1) := by decide +kernel
theorem dX8_copy_125 : decode cX8_copy 125 = .ok (.iload_n 2, 1) := by decide +kernel
theorem dX8_copy_126 : decode cX8_copy 126 = .ok (.aload_n 0, 1) := by decide +kernel
theorem dX8_copy_127 : decode cX8_copy 127 = .ok (.getfield 59, 3) := by decide +kernel
theorem dX8_copy_130 : decode cX8_copy 130 = .ok (.getfield 168, 3) := by decide +kernel
theorem dX8_copy_133 : decode cX8_copy 133 = .ok (.iload_n 3, 1) := by decide +kernel
theorem dX8_copy_134 : decode cX8_copy 134 = .ok (.aaload, 1) := by decide +kernel
theorem dX8_copy_135 : decode cX8_copy 135 = .ok (.iload 4, 2) := by decide +kernel
theorem dX8_copy_137 : decode cX8_copy 137 = .ok (.iload 5, 2) := by decide +kernel
theorem dX8_copy_139 : decode cX8_copy 139 = .ok (.invokestatic 297, 3) := by decide +kernel
theorem dX8_copy_142 : decode cX8_copy 142 = .ok (.iconst 1, 1) := by decide +kernel
theorem dX8_copy_143 : decode cX8_copy 143 = .ok (.ireturn, 1) := by decide +kernel
theorem dX8_write_0 : decode cX8_write 0 = .ok (.iload_n 1, 1) := by decide +kernel
theorem dX8_write_1 : decode cX8_write 1 = .ok (.invokestatic 151, 3) := by decide +kernel
theorem dX8_write_4 : decode cX8_write 4 = .ok (.ifCond .ne 6, 3) := by decide +kernel
theorem dX8_write_7 : decode cX8_write 7 = .ok (.bipush (-2), 2) := by decide +kernel
theorem dX8_write_9 : decode cX8_write 9 = .ok (.ireturn, 1) := by decide +kernel
theorem dX8_write_10 : decode cX8_write 10 = .ok (.aload_n 0, 1) := by decide +kernel
theorem dX8_write_11 : decode cX8_write 11 = .ok (.getfield 59, 3) := by decide +kernel
theorem dX8_write_14 : decode cX8_write 14 = .ok (.iload_n 1, 1) := by decide +kernel
theorem dX8_write_15 : decode cX8_write 15 = .ok (.invokevirtual 154, 3) := by decide +kernel
theorem dX8_write_18 : decode cX8_write 18 = .ok (.ifCond .eq 12, 3) := by decide +kernel
theorem dX8_write_21 : decode cX8_write 21 = .ok (.aload_n 0, 1) := by decide +kernel
theorem dX8_write_22 : decode cX8_write 22 = .ok (.getfield 59, 3) := by decide +kernel
theorem dX8_write_25 : decode cX8_write 25 = .ok (.iconst 1, 1) := by decide +kernel
theorem dX8_write_26 : decode cX8_write 26 = .ok (.invokevirtual 157, 3) := by decide +kernel
theorem dX8_write_29 : decode cX8_write 29 = .ok (.ireturn, 1) := by decide +kernel
theorem dX8_write_30 : decode cX8_write 30 = .ok (.aload_n 0, 1) := by decide +kernel
theorem dX8_write_31 : decode cX8_write 31 = .ok (.invokevirtual 190, 3) := by decide +kernel
theorem dX8_write_34 : decode cX8_write 34 = .ok (.aload_n 0, 1) := by decide +kernel
theorem dX8_write_35 : decode cX8_write 35 = .ok (.getfield 59, 3) := by decide +kernel
theorem dX8_write_38 : decode cX8_write 38 = .ok (.getfield 160, 3) := by decide +kernel
theorem dX8_write_41 : decode cX8_write 41 = .ok (.iload_n 1, 1) := by decide +kernel
theorem dX8_write_42 : decode cX8_write 42 = .ok (.iaload, 1) := by decide +kernel
theorem dX8_write_43 : decode cX8_write 43 = .ok (.aload_n 0, 1) := by decide +kernel
theorem dX8_write_44 : decode cX8_write 44 = .ok (.getfield 27, 3) := by decide +kernel
theorem dX8_write_47 : decode cX8_write 47 = .ok (.getfield 201, 3) := by decide +kernel
theorem dX8_write_50 : decode cX8_write 50 = .ok (.invokestatic 163, 3) := by decide +kernel
theorem dX8_write_53 : decode cX8_write 53 = .ok (.istore_n 2, 1) := by decide +kernel
theorem dX8_write_54 : decode cX8_write 54 = .ok (.iconst 0, 1) := by decide +kernel
theorem dX8_write_55 : decode cX8_write 55 = .ok (.istore_n 3, 1) := by decide +kernel
theorem dX8_write_56 : decode cX8_write 56 = .ok (.iload_n 3, 1) := by decide +kernel
theorem dX8_write_57 : decode cX8_write 57 = .ok (.iload_n 2, 1) := by decide +kernel
theorem dX8_write_58 : decode cX8_write 58 = .ok (.if_icmp .ge 27, 3) := by decide +kernel
theorem dX8_write_61 : decode cX8_write 61 = .ok (.aload_n 0, 1) := by decide +kernel
theorem dX8_write_62 : decode cX8_write 62 = .ok (.getfield 59, 3) := by decide +kernel
theorem dX8_write_65 : decode cX8_write 65 = .ok (.iload_n 1, 1) := by decide +kernel
theorem dX8_write_66 : decode cX8_write 66 = .ok (.iload_n 3, 1) := by decide +kernel
theorem dX8_write_67 : decode cX8_write 67 = .ok (.aload_n 0, 1) := by decide +kernel
theorem dX8_write_68 : decode cX8_write 68 = .ok (.getfield 10, 3) := by decide +kernel
theorem dX8_write_71 : decode cX8_write 71 = .ok (.getfield 198, 3) := by decide +kernel
theorem dX8_write_74 : decode cX8_write 74 = .ok (.iload_n 3, 1) := by decide +kernel
theorem dX8_write_75 : decode cX8_write 75 = .ok (.iaload, 1) := by decide +kernel
theorem dX8_write_76 : decode cX8_write 76 = .ok (.invokevirtual 285, 3) := by decide +kernel
theorem dX8_write_79 : decode cX8_write 79 = .ok (.iinc 3 1, 3) := by decide +kernel
theorem dX8_write_82 : decode cX8_write 82 = .ok (.goto (-26), 3) := by decide +kernel
theorem dX8_write_85 : decode cX8_write 85 = .ok (.iload_n 2, 1) := by decide +kernel
theorem dX8_write_86 : decode cX8_write 86 = .ok (.ireturn, 1) := by decide +kernel
theorem dX8_count_0 : decode cX8_count 0 = .ok (.iload_n 1, 1) := by decide +kernel
theorem dX8_count_1 : decode cX8_count 1 = .ok (.tableswitch 130 0 8 #[51, 59, 67, 75, 83, 91, 99, 114, 122], 51) := by decide +kernel
theorem dX8_count_52 : decode cX8_count 52 = .ok (.aload_n 0, 1) := by decide +kernel
theorem dX8_count_53 : decode cX8_count 53 = .ok (.getfield 27, 3) := by decide +kernel
theorem dX8_count_56 : decode cX8_count 56 = .ok (.getfield 201, 3) := by decide +kernel
theorem dX8_count_59 : decode cX8_count 59 = .ok (.ireturn, 1) := by decide +kernel
theorem dX8_count_60 : decode cX8_count 60 = .ok (.aload_n 0, 1) := by decide +kernel
theorem dX8_count_61 : decode cX8_count 61 = .ok (.getfield 27, 3) := by decide +kernel
theorem dX8_count_64 : decode cX8_count 64 = .ok (.getfield 78, 3) := by decide +kernel
theorem dX8_count_67 : decode cX8_count 67 = .ok (.ireturn, 1) := by decide +kernel
theorem dX8_count_68 : decode cX8_count 68 = .ok (.aload_n 0, 1) := by decide +kernel
theorem dX8_count_69 : decode cX8_count 69 = .ok (.getfield 34, 3) := by decide +kernel
theorem dX8_count_72 : decode cX8_count 72 = .ok (.getfield 84, 3) := by decide +kernel
theorem dX8_count_75 : decode cX8_count 75 = .ok (.ireturn, 1) := by decide +kernel
theorem dX8_count_76 : decode cX8_count 76 = .ok (.aload_n 0, 1) := by decide +kernel
theorem dX8_count_77 : decode cX8_count 77 = .ok (.getfield 34, 3) := by decide +kernel
theorem dX8_count_80 : decode cX8_count 80 = .ok (.getfield 303, 3) := by decide +kernel
theorem dX8_count_83 : decode cX8_count 83 = .ok (.ireturn, 1) := by decide +kernel
theorem dX8_count_84 : decode cX8_count 84 = .ok (.aload_n 0, 1) := by decide +kernel
theorem dX8_count_85 : decode cX8_count 85 = .ok (.getfield 45, 3) := by decide +kernel
theorem dX8_count_88 : decode cX8_count 88 = .ok (.getfield 244, 3) := by decide +kernel
theorem dX8_count_91 : decode cX8_count 91 = .ok (.ireturn, 1) := by decide +kernel
theorem dX8_count_92 : decode cX8_count 92 = .ok (.aload_n 0, 1) := by decide +kernel
theorem dX8_count_93 : decode cX8_count 93 = .ok (.getfield 52, 3) := by decide +kernel
theorem dX8_count_96 : decode cX8_count 96 = .ok (.getfield 306, 3) := by decide +kernel
theorem dX8_count_99 : decode cX8_count 99 = .ok (.ireturn, 1) := by decide +kernel
theorem dX8_count_100 : decode cX8_count 100 = .ok (.aload_n 0, 1) := by decide +kernel
theorem dX8_count_101 : decode cX8_count 101 = .ok (.getfield 27, 3) := by decide +kernel
theorem dX8_count_104 : decode cX8_count 104 = .ok (.aload_n 0, 1) := by decide +kernel
theorem dX8_count_105 : decode cX8_count 105 = .ok (.getfield 27, 3) := by decide +kernel
theorem dX8_count_108 : decode cX8_count 108 = .ok (.invokevirtual 261, 3) := by decide +kernel
theorem dX8_count_111 : decode cX8_count 111 = .ok (.invokevirtual 307, 3) := by decide +kernel
theorem dX8_count_114 : decode cX8_count 114 = .ok (.ireturn, 1) := by decide +kernel
theorem dX8_count_115 : decode cX8_count 115 = .ok (.aload_n 0, 1) := by decide +kernel
theorem dX8_count_116 : decode cX8_count 116 = .ok (.getfield 41, 3) := by decide +kernel
theorem dX8_count_119 : decode cX8_count 119 = .ok (.invokevirtual 310, 3) := by decide +kernel
theorem dX8_count_122 : decode cX8_count 122 = .ok (.ireturn, 1) := by decide +kernel
theorem dX8_count_123 : decode cX8_count 123 = .ok (.aload_n 0, 1) := by decide +kernel
theorem dX8_count_124 : decode cX8_count 124 = .ok (.getfield 59, 3) := by decide +kernel
theorem dX8_count_127 : decode cX8_count 127 = .ok (.getfield 313, 3) := by decide +kernel
theorem dX8_count_130 : decode cX8_count 130 = .ok (.ireturn, 1) := by decide +kernel
theorem dX8_count_131 : decode cX8_count 131 = .ok (.bipush (-2), 2) := by decide +kernel
theorem dX8_count_133 : decode cX8_count 133 = .ok (.ireturn, 1) := by decide +kernel
theorem dX8_digest_0 : decode cX8_digest 0 = .ok (.ldc2_w 316, 3) := by decide +kernel
theorem dX8_digest_3 : decode cX8_digest 3 = .ok (.lstore_n 1, 1) := by decide +kernel
theorem dX8_digest_4 : decode cX8_digest 4 = .ok (.iconst 0, 1) := by decide +kernel
theorem dX8_digest_5 : decode cX8_digest 5 = .ok (.istore_n 3, 1) := by decide +kernel
theorem dX8_digest_6 : decode cX8_digest 6 = .ok (.iload_n 3, 1) := by decide +kernel
theorem dX8_digest_7 : decode cX8_digest 7 = .ok (.bipush 7, 2) := by decide +kernel
theorem dX8_digest_9 : decode cX8_digest 9 = .ok (.if_icmp .gt 20, 3) := by decide +kernel
theorem dX8_digest_12 : decode cX8_digest 12 = .ok (.lload_n 1, 1) := by decide +kernel
theorem dX8_digest_13 : decode cX8_digest 13 = .ok (.aload_n 0, 1) := by decide +kernel
theorem dX8_digest_14 : decode cX8_digest 14 = .ok (.iload_n 3, 1) := by decide +kernel
theorem dX8_digest_15 : decode cX8_digest 15 = .ok (.invokevirtual 318, 3) := by decide +kernel
theorem dX8_digest_18 : decode cX8_digest 18 = .ok (.i2l, 1) := by decide +kernel
theorem dX8_digest_19 : decode cX8_digest 19 = .ok (.invokestatic 321, 3) := by decide +kernel
theorem dX8_digest_22 : decode cX8_digest 22 = .ok (.lstore_n 1, 1) := by decide +kernel
theorem dX8_digest_23 : decode cX8_digest 23 = .ok (.iinc 3 1, 3) := by decide +kernel
theorem dX8_digest_26 : decode cX8_digest 26 = .ok (.goto (-20), 3) := by decide +kernel
theorem dX8_digest_29 : decode cX8_digest 29 = .ok (.lload_n 1, 1) := by decide +kernel
theorem dX8_digest_30 : decode cX8_digest 30 = .ok (.aload_n 0, 1) := by decide +kernel
theorem dX8_digest_31 : decode cX8_digest 31 = .ok (.iconst 0, 1) := by decide +kernel
theorem dX8_digest_32 : decode cX8_digest 32 = .ok (.invokevirtual 325, 3) := by decide +kernel
theorem dX8_digest_35 : decode cX8_digest 35 = .ok (.i2l, 1) := by decide +kernel
theorem dX8_digest_36 : decode cX8_digest 36 = .ok (.invokestatic 321, 3) := by decide +kernel
theorem dX8_digest_39 : decode cX8_digest 39 = .ok (.aload_n 0, 1) := by decide +kernel
theorem dX8_digest_40 : decode cX8_digest 40 = .ok (.iconst 1, 1) := by decide +kernel
theorem dX8_digest_41 : decode cX8_digest 41 = .ok (.invokevirtual 325, 3) := by decide +kernel
theorem dX8_digest_44 : decode cX8_digest 44 = .ok (.i2l, 1) := by decide +kernel
theorem dX8_digest_45 : decode cX8_digest 45 = .ok (.invokestatic 321, 3) := by decide +kernel
theorem dX8_digest_48 : decode cX8_digest 48 = .ok (.lstore_n 1, 1) := by decide +kernel
theorem dX8_digest_49 : decode cX8_digest 49 = .ok (.iconst 0, 1) := by decide +kernel
theorem dX8_digest_50 : decode cX8_digest 50 = .ok (.istore_n 3, 1) := by decide +kernel
theorem dX8_digest_51 : decode cX8_digest 51 = .ok (.iload_n 3, 1) := by decide +kernel
theorem dX8_digest_52 : decode cX8_digest 52 = .ok (.aload_n 0, 1) := by decide +kernel
theorem dX8_digest_53 : decode cX8_digest 53 = .ok (.getfield 27, 3) := by decide +kernel
theorem dX8_digest_56 : decode cX8_digest 56 = .ok (.getfield 201, 3) := by decide +kernel
theorem dX8_digest_59 : decode cX8_digest 59 = .ok (.if_icmp .ge 40, 3) := by decide +kernel
theorem dX8_digest_62 : decode cX8_digest 62 = .ok (.aload_n 0, 1) := by decide +kernel
theorem dX8_digest_63 : decode cX8_digest 63 = .ok (.lload_n 1, 1) := by decide +kernel
theorem dX8_digest_64 : decode cX8_digest 64 = .ok (.iload_n 3, 1) := by decide +kernel
theorem dX8_digest_65 : decode cX8_digest 65 = .ok (.invokevirtual 328, 3) := by decide +kernel
theorem dX8_digest_68 : decode cX8_digest 68 = .ok (.lstore_n 1, 1) := by decide +kernel
theorem dX8_digest_69 : decode cX8_digest 69 = .ok (.lload_n 1, 1) := by decide +kernel
theorem dX8_digest_70 : decode cX8_digest 70 = .ok (.aload_n 0, 1) := by decide +kernel
theorem dX8_digest_71 : decode cX8_digest 71 = .ok (.iload_n 3, 1) := by decide +kernel
theorem dX8_digest_72 : decode cX8_digest 72 = .ok (.invokevirtual 332, 3) := by decide +kernel
theorem dX8_digest_75 : decode cX8_digest 75 = .ok (.i2l, 1) := by decide +kernel
theorem dX8_digest_76 : decode cX8_digest 76 = .ok (.invokestatic 321, 3) := by decide +kernel
theorem dX8_digest_79 : decode cX8_digest 79 = .ok (.lstore_n 1, 1) := by decide +kernel
theorem dX8_digest_80 : decode cX8_digest 80 = .ok (.lload_n 1, 1) := by decide +kernel
theorem dX8_digest_81 : decode cX8_digest 81 = .ok (.aload_n 0, 1) := by decide +kernel
theorem dX8_digest_82 : decode cX8_digest 82 = .ok (.iconst 1, 1) := by decide +kernel
theorem dX8_digest_83 : decode cX8_digest 83 = .ok (.iload_n 3, 1) := by decide +kernel
theorem dX8_digest_84 : decode cX8_digest 84 = .ok (.ishl, 1) := by decide +kernel
theorem dX8_digest_85 : decode cX8_digest 85 = .ok (.invokevirtual 335, 3) := by decide +kernel
theorem dX8_digest_88 : decode cX8_digest 88 = .ok (.i2l, 1) := by decide +kernel
theorem dX8_digest_89 : decode cX8_digest 89 = .ok (.invokestatic 321, 3) := by decide +kernel
theorem dX8_digest_92 : decode cX8_digest 92 = .ok (.lstore_n 1, 1) := by decide +kernel
theorem dX8_digest_93 : decode cX8_digest 93 = .ok (.iinc 3 1, 3) := by decide +kernel
theorem dX8_digest_96 : decode cX8_digest 96 = .ok (.goto (-45), 3) := by decide +kernel
theorem dX8_digest_99 : decode cX8_digest 99 = .ok (.iconst 0, 1) := by decide +kernel
theorem dX8_digest_100 : decode cX8_digest 100 = .ok (.istore_n 3, 1) := by decide +kernel
theorem dX8_digest_101 : decode cX8_digest 101 = .ok (.iload_n 3, 1) := by decide +kernel
theorem dX8_digest_102 : decode cX8_digest 102 = .ok (.iconst 4, 1) := by decide +kernel
theorem dX8_digest_103 : decode cX8_digest 103 = .ok (.if_icmp .ge 37, 3) := by decide +kernel
theorem dX8_digest_106 : decode cX8_digest 106 = .ok (.iconst 0, 1) := by decide +kernel
theorem dX8_digest_107 : decode cX8_digest 107 = .ok (.istore 4, 2) := by decide +kernel
theorem dX8_digest_109 : decode cX8_digest 109 = .ok (.iload 4, 2) := by decide +kernel
theorem dX8_digest_111 : decode cX8_digest 111 = .ok (.iconst 2, 1) := by decide +kernel
theorem dX8_digest_112 : decode cX8_digest 112 = .ok (.if_icmp .gt 22, 3) := by decide +kernel
theorem dX8_digest_115 : decode cX8_digest 115 = .ok (.lload_n 1, 1) := by decide +kernel
theorem dX8_digest_116 : decode cX8_digest 116 = .ok (.aload_n 0, 1) := by decide +kernel
theorem dX8_digest_117 : decode cX8_digest 117 = .ok (.iload_n 3, 1) := by decide +kernel
theorem dX8_digest_118 : decode cX8_digest 118 = .ok (.iload 4, 2) := by decide +kernel
theorem dX8_digest_120 : decode cX8_digest 120 = .ok (.invokevirtual 338, 3) := by decide +kernel
theorem dX8_digest_123 : decode cX8_digest 123 = .ok (.i2l, 1) := by decide +kernel
theorem dX8_digest_124 : decode cX8_digest 124 = .ok (.invokestatic 321, 3) := by decide +kernel
theorem dX8_digest_127 : decode cX8_digest 127 = .ok (.lstore_n 1, 1) := by decide +kernel
theorem dX8_digest_128 : decode cX8_digest 128 = .ok (.iinc 4 1, 3) := by decide +kernel
theorem dX8_digest_131 : decode cX8_digest 131 = .ok (.goto (-22), 3) := by decide +kernel
theorem dX8_digest_134 : decode cX8_digest 134 = .ok (.iinc 3 1, 3) := by decide +kernel
theorem dX8_digest_137 : decode cX8_digest 137 = .ok (.goto (-36), 3) := by decide +kernel
theorem dX8_digest_140 : decode cX8_digest 140 = .ok (.lload_n 1, 1) := by decide +kernel
theorem dX8_digest_141 : decode cX8_digest 141 = .ok (.aload_n 0, 1) := by decide +kernel
theorem dX8_digest_142 : decode cX8_digest 142 = .ok (.iconst 0, 1) := by decide +kernel
theorem dX8_digest_143 : decode cX8_digest 143 = .ok (.invokevirtual 341, 3) := by decide +kernel
theorem dX8_digest_146 : decode cX8_digest 146 = .ok (.i2l, 1) := by decide +kernel
theorem dX8_digest_147 : decode cX8_digest 147 = .ok (.invokestatic 321, 3) := by decide +kernel
theorem dX8_digest_150 : decode cX8_digest 150 = .ok (.aload_n 0, 1) := by decide +kernel
theorem dX8_digest_151 : decode cX8_digest 151 = .ok (.iconst 1, 1) := by decide +kernel
theorem dX8_digest_152 : decode cX8_digest 152 = .ok (.invokevirtual 341, 3) := by decide +kernel
theorem dX8_digest_155 : decode cX8_digest 155 = .ok (.i2l, 1) := by decide +kernel
theorem dX8_digest_156 : decode cX8_digest 156 = .ok (.invokestatic 321, 3) := by decide +kernel
theorem dX8_digest_159 : decode cX8_digest 159 = .ok (.lstore_n 1, 1) := by decide +kernel
theorem dX8_digest_160 : decode cX8_digest 160 = .ok (.lload_n 1, 1) := by decide +kernel
theorem dX8_digest_161 : decode cX8_digest 161 = .ok (.aload_n 0, 1) := by decide +kernel
theorem dX8_digest_162 : decode cX8_digest 162 = .ok (.iconst 0, 1) := by decide +kernel
theorem dX8_digest_163 : decode cX8_digest 163 = .ok (.invokevirtual 344, 3) := by decide +kernel
theorem dX8_digest_166 : decode cX8_digest 166 = .ok (.i2l, 1) := by decide +kernel
theorem dX8_digest_167 : decode cX8_digest 167 = .ok (.invokestatic 321, 3) := by decide +kernel
theorem dX8_digest_170 : decode cX8_digest 170 = .ok (.aload_n 0, 1) := by decide +kernel
theorem dX8_digest_171 : decode cX8_digest 171 = .ok (.iconst 1, 1) := by decide +kernel
theorem dX8_digest_172 : decode cX8_digest 172 = .ok (.invokevirtual 344, 3) := by decide +kernel
theorem dX8_digest_175 : decode cX8_digest 175 = .ok (.i2l, 1) := by decide +kernel
theorem dX8_digest_176 : decode cX8_digest 176 = .ok (.invokestatic 321, 3) := by decide +kernel
theorem dX8_digest_179 : decode cX8_digest 179 = .ok (.aload_n 0, 1) := by decide +kernel
theorem dX8_digest_180 : decode cX8_digest 180 = .ok (.iconst 2, 1) := by decide +kernel
theorem dX8_digest_181 : decode cX8_digest 181 = .ok (.invokevirtual 344, 3) := by decide +kernel
theorem dX8_digest_184 : decode cX8_digest 184 = .ok (.i2l, 1) := by decide +kernel
theorem dX8_digest_185 : decode cX8_digest 185 = .ok (.invokestatic 321, 3) := by decide +kernel
theorem dX8_digest_188 : decode cX8_digest 188 = .ok (.lstore_n 1, 1) := by decide +kernel
theorem dX8_digest_189 : decode cX8_digest 189 = .ok (.lload_n 1, 1) := by decide +kernel
theorem dX8_digest_190 : decode cX8_digest 190 = .ok (.aload_n 0, 1) := by decide +kernel
theorem dX8_digest_191 : decode cX8_digest 191 = .ok (.iconst 0, 1) := by decide +kernel
theorem dX8_digest_192 : decode cX8_digest 192 = .ok (.invokevirtual 347, 3) := by decide +kernel
theorem dX8_digest_195 : decode cX8_digest 195 = .ok (.i2l, 1) := by decide +kernel
theorem dX8_digest_196 : decode cX8_digest 196 = .ok (.invokestatic 321, 3) := by decide +kernel
theorem dX8_digest_199 : decode cX8_digest 199 = .ok (.aload_n 0, 1) := by decide +kernel
theorem dX8_digest_200 : decode cX8_digest 200 = .ok (.iconst 1, 1) := by decide +kernel
theorem dX8_digest_201 : decode cX8_digest 201 = .ok (.invokevirtual 347, 3) := by decide +kernel
theorem dX8_digest_204 : decode cX8_digest 204 = .ok (.i2l, 1) := by decide +kernel
theorem dX8_digest_205 : decode cX8_digest 205 = .ok (.invokestatic 321, 3) := by decide +kernel
theorem dX8_digest_208 : decode cX8_digest 208 = .ok (.lstore_n 1, 1) := by decide +kernel
theorem dX8_digest_209 : decode cX8_digest 209 = .ok (.lload_n 1, 1) := by decide +kernel
theorem dX8_digest_210 : decode cX8_digest 210 = .ok (.aload_n 0, 1) := by decide +kernel
theorem dX8_digest_211 : decode cX8_digest 211 = .ok (.invokevirtual 350, 3) := by decide +kernel
theorem dX8_digest_214 : decode cX8_digest 214 = .ok (.i2l, 1) := by decide +kernel
theorem dX8_digest_215 : decode cX8_digest 215 = .ok (.invokestatic 321, 3) := by decide +kernel
theorem dX8_digest_218 : decode cX8_digest 218 = .ok (.lstore_n 1, 1) := by decide +kernel
theorem dX8_digest_219 : decode cX8_digest 219 = .ok (.lload_n 1, 1) := by decide +kernel
theorem dX8_digest_220 : decode cX8_digest 220 = .ok (.aload_n 0, 1) := by decide +kernel
theorem dX8_digest_221 : decode cX8_digest 221 = .ok (.iconst 2, 1) := by decide +kernel
theorem dX8_digest_222 : decode cX8_digest 222 = .ok (.iconst 0, 1) := by decide +kernel
theorem dX8_digest_223 : decode cX8_digest 223 = .ok (.invokevirtual 353, 3) := by decide +kernel
theorem dX8_digest_226 : decode cX8_digest 226 = .ok (.invokestatic 321, 3) := by decide +kernel
theorem dX8_digest_229 : decode cX8_digest 229 = .ok (.aload_n 0, 1) := by decide +kernel
theorem dX8_digest_230 : decode cX8_digest 230 = .ok (.iconst 2, 1) := by decide +kernel
theorem dX8_digest_231 : decode cX8_digest 231 = .ok (.iconst 1, 1) := by decide +kernel
theorem dX8_digest_232 : decode cX8_digest 232 = .ok (.invokevirtual 353, 3) := by decide +kernel
theorem dX8_digest_235 : decode cX8_digest 235 = .ok (.invokestatic 321, 3) := by decide +kernel
theorem dX8_digest_238 : decode cX8_digest 238 = .ok (.lreturn, 1) := by decide +kernel
theorem dX8_mixDeed_0 : decode cX8_mixDeed 0 = .ok (.lload_n 1, 1) := by decide +kernel
theorem dX8_mixDeed_1 : decode cX8_mixDeed 1 = .ok (.lstore 4, 2) := by decide +kernel
theorem dX8_mixDeed_3 : decode cX8_mixDeed 3 = .ok (.iconst 0, 1) := by decide +kernel
theorem dX8_mixDeed_4 : decode cX8_mixDeed 4 = .ok (.istore 6, 2) := by decide +kernel
theorem dX8_mixDeed_6 : decode cX8_mixDeed 6 = .ok (.iload 6, 2) := by decide +kernel
theorem dX8_mixDeed_8 : decode cX8_mixDeed 8 = .ok (.iconst 4, 1) := by decide +kernel
theorem dX8_mixDeed_9 : decode cX8_mixDeed 9 = .ok (.if_icmp .gt 24, 3) := by decide +kernel
theorem dX8_mixDeed_12 : decode cX8_mixDeed 12 = .ok (.lload 4, 2) := by decide +kernel
theorem dX8_mixDeed_14 : decode cX8_mixDeed 14 = .ok (.aload_n 0, 1) := by decide +kernel
theorem dX8_mixDeed_15 : decode cX8_mixDeed 15 = .ok (.iload_n 3, 1) := by decide +kernel
theorem dX8_mixDeed_16 : decode cX8_mixDeed 16 = .ok (.iload 6, 2) := by decide +kernel
theorem dX8_mixDeed_18 : decode cX8_mixDeed 18 = .ok (.invokevirtual 357, 3) := by decide +kernel
theorem dX8_mixDeed_21 : decode cX8_mixDeed 21 = .ok (.i2l, 1) := by decide +kernel
theorem dX8_mixDeed_22 : decode cX8_mixDeed 22 = .ok (.invokestatic 321, 3) := by decide +kernel
theorem dX8_mixDeed_25 : decode cX8_mixDeed 25 = .ok (.lstore 4, 2) := by decide +kernel
theorem dX8_mixDeed_27 : decode cX8_mixDeed 27 = .ok (.iinc 6 1, 3) := by decide +kernel
theorem dX8_mixDeed_30 : decode cX8_mixDeed 30 = .ok (.goto (-24), 3) := by decide +kernel
theorem dX8_mixDeed_33 : decode cX8_mixDeed 33 = .ok (.lload 4, 2) := by decide +kernel
theorem dX8_mixDeed_35 : decode cX8_mixDeed 35 = .ok (.aload_n 0, 1) := by decide +kernel
theorem dX8_mixDeed_36 : decode cX8_mixDeed 36 = .ok (.iload_n 3, 1) := by decide +kernel
theorem dX8_mixDeed_37 : decode cX8_mixDeed 37 = .ok (.invokevirtual 360, 3) := by decide +kernel
theorem dX8_mixDeed_40 : decode cX8_mixDeed 40 = .ok (.i2l, 1) := by decide +kernel
theorem dX8_mixDeed_41 : decode cX8_mixDeed 41 = .ok (.invokestatic 321, 3) := by decide +kernel
theorem dX8_mixDeed_44 : decode cX8_mixDeed 44 = .ok (.lstore 4, 2) := by decide +kernel
theorem dX8_mixDeed_46 : decode cX8_mixDeed 46 = .ok (.lload 4, 2) := by decide +kernel
theorem dX8_mixDeed_48 : decode cX8_mixDeed 48 = .ok (.aload_n 0, 1) := by decide +kernel
theorem dX8_mixDeed_49 : decode cX8_mixDeed 49 = .ok (.iload_n 3, 1) := by decide +kernel
theorem dX8_mixDeed_50 : decode cX8_mixDeed 50 = .ok (.iconst 2, 1) := by decide +kernel
theorem dX8_mixDeed_51 : decode cX8_mixDeed 51 = .ok (.invokevirtual 363, 3) := by decide +kernel
theorem dX8_mixDeed_54 : decode cX8_mixDeed 54 = .ok (.i2l, 1) := by decide +kernel
theorem dX8_mixDeed_55 : decode cX8_mixDeed 55 = .ok (.invokestatic 321, 3) := by decide +kernel
theorem dX8_mixDeed_58 : decode cX8_mixDeed 58 = .ok (.lstore 4, 2) := by decide +kernel
theorem dX8_mixDeed_60 : decode cX8_mixDeed 60 = .ok (.lload 4, 2) := by decide +kernel
theorem dX8_mixDeed_62 : decode cX8_mixDeed 62 = .ok (.aload_n 0, 1) := by decide +kernel
theorem dX8_mixDeed_63 : decode cX8_mixDeed 63 = .ok (.iload_n 3, 1) := by decide +kernel
theorem dX8_mixDeed_64 : decode cX8_mixDeed 64 = .ok (.iconst 2, 1) := by decide +kernel
theorem dX8_mixDeed_65 : decode cX8_mixDeed 65 = .ok (.invokevirtual 366, 3) := by decide +kernel
theorem dX8_mixDeed_68 : decode cX8_mixDeed 68 = .ok (.i2l, 1) := by decide +kernel
theorem dX8_mixDeed_69 : decode cX8_mixDeed 69 = .ok (.invokestatic 321, 3) := by decide +kernel
theorem dX8_mixDeed_72 : decode cX8_mixDeed 72 = .ok (.lstore 4, 2) := by decide +kernel
theorem dX8_mixDeed_74 : decode cX8_mixDeed 74 = .ok (.lload 4, 2) := by decide +kernel
theorem dX8_mixDeed_76 : decode cX8_mixDeed 76 = .ok (.aload_n 0, 1) := by decide +kernel
theorem dX8_mixDeed_77 : decode cX8_mixDeed 77 = .ok (.iload_n 3, 1) := by decide +kernel
theorem dX8_mixDeed_78 : decode cX8_mixDeed 78 = .ok (.iconst 2, 1) := by decide +kernel
theorem dX8_mixDeed_79 : decode cX8_mixDeed 79 = .ok (.iconst 0, 1) := by decide +kernel
theorem dX8_mixDeed_80 : decode cX8_mixDeed 80 = .ok (.invokevirtual 369, 3) := by decide +kernel
theorem dX8_mixDeed_83 : decode cX8_mixDeed 83 = .ok (.invokestatic 321, 3) := by decide +kernel
theorem dX8_mixDeed_86 : decode cX8_mixDeed 86 = .ok (.aload_n 0, 1) := by decide +kernel
theorem dX8_mixDeed_87 : decode cX8_mixDeed 87 = .ok (.iload_n 3, 1) := by decide +kernel
theorem dX8_mixDeed_88 : decode cX8_mixDeed 88 = .ok (.iconst 2, 1) := by decide +kernel
theorem dX8_mixDeed_89 : decode cX8_mixDeed 89 = .ok (.iconst 1, 1) := by decide +kernel
theorem dX8_mixDeed_90 : decode cX8_mixDeed 90 = .ok (.invokevirtual 369, 3) := by decide +kernel
theorem dX8_mixDeed_93 : decode cX8_mixDeed 93 = .ok (.invokestatic 321, 3) := by decide +kernel
theorem dX8_mixDeed_96 : decode cX8_mixDeed 96 = .ok (.lreturn, 1) := by decide +kernel
theorem dX8_mix_0 : decode cX8_mix 0 = .ok (.ldc2_w 372, 3) := by decide +kernel
theorem dX8_mix_3 : decode cX8_mix 3 = .ok (.lload_n 0, 1) := by decide +kernel
theorem dX8_mix_4 : decode cX8_mix 4 = .ok (.lmul, 1) := by decide +kernel
theorem dX8_mix_5 : decode cX8_mix 5 = .ok (.lload_n 2, 1) := by decide +kernel
theorem dX8_mix_6 : decode cX8_mix 6 = .ok (.ladd, 1) := by decide +kernel
theorem dX8_mix_7 : decode cX8_mix 7 = .ok (.lreturn, 1) := by decide +kernel
theorem dX8_within_0 : decode cX8_within 0 = .ok (.iload_n 0, 1) := by decide +kernel
theorem dX8_within_1 : decode cX8_within 1 = .ok (.ifCond .lt 12, 3) := by decide +kernel
theorem dX8_within_4 : decode cX8_within 4 = .ok (.iload_n 0, 1) := by decide +kernel
theorem dX8_within_5 : decode cX8_within 5 = .ok (.iload_n 1, 1) := by decide +kernel
theorem dX8_within_6 : decode cX8_within 6 = .ok (.if_icmp .gt 7, 3) := by decide +kernel
theorem dX8_within_9 : decode cX8_within 9 = .ok (.iconst 1, 1) := by decide +kernel
theorem dX8_within_10 : decode cX8_within 10 = .ok (.goto 4, 3) := by decide +kernel
theorem dX8_within_13 : decode cX8_within 13 = .ok (.iconst 0, 1) := by decide +kernel
theorem dX8_within_14 : decode cX8_within 14 = .ok (.ireturn, 1) := by decide +kernel
theorem dX8_hasBit_0 : decode cX8_hasBit 0 = .ok (.iload_n 0, 1) := by decide +kernel
theorem dX8_hasBit_1 : decode cX8_hasBit 1 = .ok (.iload_n 1, 1) := by decide +kernel
theorem dX8_hasBit_2 : decode cX8_hasBit 2 = .ok (.ishr, 1) := by decide +kernel
theorem dX8_hasBit_3 : decode cX8_hasBit 3 = .ok (.iconst 1, 1) := by decide +kernel
theorem dX8_hasBit_4 : decode cX8_hasBit 4 = .ok (.iand, 1) := by decide +kernel
theorem dX8_hasBit_5 : decode cX8_hasBit 5 = .ok (.ifCond .eq 7, 3) := by decide +kernel
theorem dX8_hasBit_8 : decode cX8_hasBit 8 = .ok (.iconst 1, 1) := by decide +kernel
theorem dX8_hasBit_9 : decode cX8_hasBit 9 = .ok (.goto 4, 3) := by decide +kernel
theorem dX8_hasBit_12 : decode cX8_hasBit 12 = .ok (.iconst 0, 1) := by decide +kernel
theorem dX8_hasBit_13 : decode cX8_hasBit 13 = .ok (.ireturn, 1) := by decide +kernel
theorem dX8_kindOf_0 : decode cX8_kindOf 0 = .ok (.iload_n 0, 1) := by decide +kernel
theorem dX8_kindOf_1 : decode cX8_kindOf 1 = .ok (.tableswitch 43 112 116 #[35, 43, 37, 41, 39], 35) := by decide +kernel
theorem dX8_kindOf_36 : decode cX8_kindOf 36 = .ok (.iconst 0, 1) := by decide +kernel
theorem dX8_kindOf_37 : decode cX8_kindOf 37 = .ok (.ireturn, 1) := by decide +kernel
theorem dX8_kindOf_38 : decode cX8_kindOf 38 = .ok (.iconst 1, 1) := by decide +kernel
theorem dX8_kindOf_39 : decode cX8_kindOf 39 = .ok (.ireturn, 1) := by decide +kernel
theorem dX8_kindOf_40 : decode cX8_kindOf 40 = .ok (.iconst 2, 1) := by decide +kernel
theorem dX8_kindOf_41 : decode cX8_kindOf 41 = .ok (.ireturn, 1) := by decide +kernel
theorem dX8_kindOf_42 : decode cX8_kindOf 42 = .ok (.iconst 3, 1) := by decide +kernel
theorem dX8_kindOf_43 : decode cX8_kindOf 43 = .ok (.ireturn, 1) := by decide +kernel
theorem dX8_kindOf_44 : decode cX8_kindOf 44 = .ok (.iconst (-1), 1) := by decide +kernel
theorem dX8_kindOf_45 : decode cX8_kindOf 45 = .ok (.ireturn, 1) := by decide +kernel
theorem dX8_figureOf_0 : decode cX8_figureOf 0 = .ok (.iload_n 0, 1) := by decide +kernel
theorem dX8_figureOf_1 : decode cX8_figureOf 1 = .ok (.bipush 48, 2) := by decide +kernel
theorem dX8_figureOf_3 : decode cX8_figureOf 3 = .ok (.isub, 1) := by decide +kernel
theorem dX8_figureOf_4 : decode cX8_figureOf 4 = .ok (.istore_n 3, 1) := by decide +kernel
theorem dX8_figureOf_5 : decode cX8_figureOf 5 = .ok (.iload_n 3, 1) := by decide +kernel
theorem dX8_figureOf_6 : decode cX8_figureOf 6 = .ok (.iload_n 1, 1) := by decide +kernel
theorem dX8_figureOf_7 : decode cX8_figureOf 7 = .ok (.if_icmp .lt 12, 3) := by decide +kernel
theorem dX8_figureOf_10 : decode cX8_figureOf 10 = .ok (.iload_n 3, 1) := by decide +kernel
theorem dX8_figureOf_11 : decode cX8_figureOf 11 = .ok (.iload_n 2, 1) := by decide +kernel
theorem dX8_figureOf_12 : decode cX8_figureOf 12 = .ok (.if_icmp .gt 7, 3) := by decide +kernel
theorem dX8_figureOf_15 : decode cX8_figureOf 15 = .ok (.iload_n 3, 1) := by decide +kernel
theorem dX8_figureOf_16 : decode cX8_figureOf 16 = .ok (.goto 4, 3) := by decide +kernel
theorem dX8_figureOf_19 : decode cX8_figureOf 19 = .ok (.iconst (-1), 1) := by decide +kernel
theorem dX8_figureOf_20 : decode cX8_figureOf 20 = .ok (.ireturn, 1) := by decide +kernel
theorem dX8_refusal_0 : decode cX8_refusal 0 = .ok (.ldc2_w 376, 3) := by decide +kernel
theorem dX8_refusal_3 : decode cX8_refusal 3 = .ok (.iload_n 0, 1) := by decide +kernel
theorem dX8_refusal_4 : decode cX8_refusal 4 = .ok (.i2l, 1) := by decide +kernel
theorem dX8_refusal_5 : decode cX8_refusal 5 = .ok (.lsub, 1) := by decide +kernel
theorem dX8_refusal_6 : decode cX8_refusal 6 = .ok (.lreturn, 1) := by decide +kernel
theorem dX8_lowestTerm_0 : decode cX8_lowestTerm 0 = .ok (.iload_n 1, 1) := by decide +kernel
theorem dX8_lowestTerm_1 : decode cX8_lowestTerm 1 = .ok (.istore_n 3, 1) := by decide +kernel
theorem dX8_lowestTerm_2 : decode cX8_lowestTerm 2 = .ok (.iload_n 0, 1) := by decide +kernel
theorem dX8_lowestTerm_3 : decode cX8_lowestTerm 3 = .ok (.istore 4, 2) := by decide +kernel
theorem dX8_lowestTerm_5 : decode cX8_lowestTerm 5 = .ok (.iconst 0, 1) := by decide +kernel
theorem dX8_lowestTerm_6 : decode cX8_lowestTerm 6 = .ok (.istore 5, 2) := by decide +kernel
theorem dX8_lowestTerm_8 : decode cX8_lowestTerm 8 = .ok (.iload 5, 2) := by decide +kernel
theorem dX8_lowestTerm_10 : decode cX8_lowestTerm 10 = .ok (.bipush 64, 2) := by decide +kernel
theorem dX8_lowestTerm_12 : decode cX8_lowestTerm 12 = .ok (.if_icmp .ge 27, 3) := by decide +kernel
theorem dX8_lowestTerm_15 : decode cX8_lowestTerm 15 = .ok (.iload 4, 2) := by decide +kernel
theorem dX8_lowestTerm_17 : decode cX8_lowestTerm 17 = .ok (.ifCond .eq 22, 3) := by decide +kernel
theorem dX8_lowestTerm_20 : decode cX8_lowestTerm 20 = .ok (.iload_n 3, 1) := by decide +kernel
theorem dX8_lowestTerm_21 : decode cX8_lowestTerm 21 = .ok (.iload 4, 2) := by decide +kernel
theorem dX8_lowestTerm_23 : decode cX8_lowestTerm 23 = .ok (.irem, 1) := by decide +kernel
theorem dX8_lowestTerm_24 : decode cX8_lowestTerm 24 = .ok (.istore 6, 2) := by decide +kernel
theorem dX8_lowestTerm_26 : decode cX8_lowestTerm 26 = .ok (.iload 4, 2) := by decide +kernel
theorem dX8_lowestTerm_28 : decode cX8_lowestTerm 28 = .ok (.istore_n 3, 1) := by decide +kernel
theorem dX8_lowestTerm_29 : decode cX8_lowestTerm 29 = .ok (.iload 6, 2) := by decide +kernel
theorem dX8_lowestTerm_31 : decode cX8_lowestTerm 31 = .ok (.istore 4, 2) := by decide +kernel
theorem dX8_lowestTerm_33 : decode cX8_lowestTerm 33 = .ok (.iinc 5 1, 3) := by decide +kernel
theorem dX8_lowestTerm_36 : decode cX8_lowestTerm 36 = .ok (.goto (-28), 3) := by decide +kernel
theorem dX8_lowestTerm_39 : decode cX8_lowestTerm 39 = .ok (.iload_n 3, 1) := by decide +kernel
theorem dX8_lowestTerm_40 : decode cX8_lowestTerm 40 = .ok (.ifCond .ne 15, 3) := by decide +kernel
theorem dX8_lowestTerm_43 : decode cX8_lowestTerm 43 = .ok (.iload_n 2, 1) := by decide +kernel
theorem dX8_lowestTerm_44 : decode cX8_lowestTerm 44 = .ok (.ifCond .ne 8, 3) := by decide +kernel
theorem dX8_lowestTerm_47 : decode cX8_lowestTerm 47 = .ok (.iload_n 0, 1) := by decide +kernel
theorem dX8_lowestTerm_48 : decode cX8_lowestTerm 48 = .ok (.i2l, 1) := by decide +kernel
theorem dX8_lowestTerm_49 : decode cX8_lowestTerm 49 = .ok (.goto 5, 3) := by decide +kernel
theorem dX8_lowestTerm_52 : decode cX8_lowestTerm 52 = .ok (.iload_n 1, 1) := by decide +kernel
theorem dX8_lowestTerm_53 : decode cX8_lowestTerm 53 = .ok (.i2l, 1) := by decide +kernel
theorem dX8_lowestTerm_54 : decode cX8_lowestTerm 54 = .ok (.lreturn, 1) := by decide +kernel
theorem dX8_lowestTerm_55 : decode cX8_lowestTerm 55 = .ok (.iload_n 2, 1) := by decide +kernel
theorem dX8_lowestTerm_56 : decode cX8_lowestTerm 56 = .ok (.ifCond .ne 10, 3) := by decide +kernel
theorem dX8_lowestTerm_59 : decode cX8_lowestTerm 59 = .ok (.iload_n 0, 1) := by decide +kernel
theorem dX8_lowestTerm_60 : decode cX8_lowestTerm 60 = .ok (.iload_n 3, 1) := by decide +kernel
theorem dX8_lowestTerm_61 : decode cX8_lowestTerm 61 = .ok (.idiv, 1) := by decide +kernel
theorem dX8_lowestTerm_62 : decode cX8_lowestTerm 62 = .ok (.i2l, 1) := by decide +kernel
theorem dX8_lowestTerm_63 : decode cX8_lowestTerm 63 = .ok (.goto 7, 3) := by decide +kernel
theorem dX8_lowestTerm_66 : decode cX8_lowestTerm 66 = .ok (.iload_n 1, 1) := by decide +kernel
theorem dX8_lowestTerm_67 : decode cX8_lowestTerm 67 = .ok (.iload_n 3, 1) := by decide +kernel
theorem dX8_lowestTerm_68 : decode cX8_lowestTerm 68 = .ok (.idiv, 1) := by decide +kernel
theorem dX8_lowestTerm_69 : decode cX8_lowestTerm 69 = .ok (.i2l, 1) := by decide +kernel
theorem dX8_lowestTerm_70 : decode cX8_lowestTerm 70 = .ok (.lreturn, 1) := by decide +kernel
theorem dX8_isDeed_0 : decode cX8_isDeed 0 = .ok (.iload_n 1, 1) := by decide +kernel
theorem dX8_isDeed_1 : decode cX8_isDeed 1 = .ok (.aload_n 0, 1) := by decide +kernel
theorem dX8_isDeed_2 : decode cX8_isDeed 2 = .ok (.getfield 27, 3) := by decide +kernel
theorem dX8_isDeed_5 : decode cX8_isDeed 5 = .ok (.getfield 201, 3) := by decide +kernel
theorem dX8_isDeed_8 : decode cX8_isDeed 8 = .ok (.iconst 1, 1) := by decide +kernel
theorem dX8_isDeed_9 : decode cX8_isDeed 9 = .ok (.isub, 1) := by decide +kernel
theorem dX8_isDeed_10 : decode cX8_isDeed 10 = .ok (.invokestatic 74, 3) := by decide +kernel
theorem dX8_isDeed_13 : decode cX8_isDeed 13 = .ok (.ireturn, 1) := by decide +kernel
theorem dX8_sparedBy_0 : decode cX8_sparedBy 0 = .ok (.aload_n 0, 1) := by decide +kernel
theorem dX8_sparedBy_1 : decode cX8_sparedBy 1 = .ok (.getfield 27, 3) := by decide +kernel
theorem dX8_sparedBy_4 : decode cX8_sparedBy 4 = .ok (.aload_n 0, 1) := by decide +kernel
theorem dX8_sparedBy_5 : decode cX8_sparedBy 5 = .ok (.getfield 52, 3) := by decide +kernel
theorem dX8_sparedBy_8 : decode cX8_sparedBy 8 = .ok (.iload_n 1, 1) := by decide +kernel
theorem dX8_sparedBy_9 : decode cX8_sparedBy 9 = .ok (.aload_n 0, 1) := by decide +kernel
theorem dX8_sparedBy_10 : decode cX8_sparedBy 10 = .ok (.getfield 27, 3) := by decide +kernel
theorem dX8_sparedBy_13 : decode cX8_sparedBy 13 = .ok (.invokevirtual 261, 3) := by decide +kernel
theorem dX8_sparedBy_16 : decode cX8_sparedBy 16 = .ok (.invokevirtual 378, 3) := by decide +kernel
theorem dX8_sparedBy_19 : decode cX8_sparedBy 19 = .ok (.iload_n 1, 1) := by decide +kernel
theorem dX8_sparedBy_20 : decode cX8_sparedBy 20 = .ok (.iconst (-1), 1) := by decide +kernel
theorem dX8_sparedBy_21 : decode cX8_sparedBy 21 = .ok (.ixor, 1) := by decide +kernel
theorem dX8_sparedBy_22 : decode cX8_sparedBy 22 = .ok (.iand, 1) := by decide +kernel
theorem dX8_sparedBy_23 : decode cX8_sparedBy 23 = .ok (.invokevirtual 307, 3) := by decide +kernel
theorem dX8_sparedBy_26 : decode cX8_sparedBy 26 = .ok (.ireturn, 1) := by decide +kernel
theorem dX8_nightChanged_0 : decode cX8_nightChanged 0 = .ok (.aload_n 0, 1) := by decide +kernel
theorem dX8_nightChanged_1 : decode cX8_nightChanged 1 = .ok (.iconst 1, 1) := by decide +kernel
theorem dX8_nightChanged_2 : decode cX8_nightChanged 2 = .ok (.putfield 67, 3) := by decide +kernel
theorem dX8_nightChanged_5 : decode cX8_nightChanged 5 = .ok (.aload_n 0, 1) := by decide +kernel
theorem dX8_nightChanged_6 : decode cX8_nightChanged 6 = .ok (.iconst 1, 1) := by decide +kernel
theorem dX8_nightChanged_7 : decode cX8_nightChanged 7 = .ok (.putfield 71, 3) := by decide +kernel
theorem dX8_nightChanged_10 : decode cX8_nightChanged 10 = .ok (.return_, 1) := by decide +kernel
theorem dX8_reckonOffers_0 : decode cX8_reckonOffers 0 = .ok (.aload_n 0, 1) := by decide +kernel
theorem dX8_reckonOffers_1 : decode cX8_reckonOffers 1 = .ok (.getfield 67, 3) := by decide +kernel
theorem dX8_reckonOffers_4 : decode cX8_reckonOffers 4 = .ok (.ifCond .eq 15, 3) := by decide +kernel
theorem dX8_reckonOffers_7 : decode cX8_reckonOffers 7 = .ok (.aload_n 0, 1) := by decide +kernel
theorem dX8_reckonOffers_8 : decode cX8_reckonOffers 8 = .ok (.getfield 20, 3) := by decide +kernel
theorem dX8_reckonOffers_11 : decode cX8_reckonOffers 11 = .ok (.invokevirtual 381, 3) := by decide +kernel
theorem dX8_reckonOffers_14 : decode cX8_reckonOffers 14 = .ok (.aload_n 0, 1) := by decide +kernel
theorem dX8_reckonOffers_15 : decode cX8_reckonOffers 15 = .ok (.iconst 0, 1) := by decide +kernel
theorem dX8_reckonOffers_16 : decode cX8_reckonOffers 16 = .ok (.putfield 67, 3) := by decide +kernel
theorem dX8_reckonOffers_19 : decode cX8_reckonOffers 19 = .ok (.return_, 1) := by decide +kernel
theorem dX8_reckonPlan_0 : decode cX8_reckonPlan 0 = .ok (.aload_n 0, 1) := by decide +kernel
theorem dX8_reckonPlan_1 : decode cX8_reckonPlan 1 = .ok (.invokevirtual 175, 3) := by decide +kernel
theorem dX8_reckonPlan_4 : decode cX8_reckonPlan 4 = .ok (.aload_n 0, 1) := by decide +kernel
theorem dX8_reckonPlan_5 : decode cX8_reckonPlan 5 = .ok (.getfield 71, 3) := by decide +kernel
theorem dX8_reckonPlan_8 : decode cX8_reckonPlan 8 = .ok (.ifCond .eq 15, 3) := by decide +kernel
theorem dX8_reckonPlan_11 : decode cX8_reckonPlan 11 = .ok (.aload_n 0, 1) := by decide +kernel
theorem dX8_reckonPlan_12 : decode cX8_reckonPlan 12 = .ok (.getfield 10, 3) := by decide +kernel
theorem dX8_reckonPlan_15 : decode cX8_reckonPlan 15 = .ok (.invokevirtual 384, 3) := by decide +kernel
theorem dX8_reckonPlan_18 : decode cX8_reckonPlan 18 = .ok (.aload_n 0, 1) := by decide +kernel
theorem dX8_reckonPlan_19 : decode cX8_reckonPlan 19 = .ok (.iconst 0, 1) := by decide +kernel
theorem dX8_reckonPlan_20 : decode cX8_reckonPlan 20 = .ok (.putfield 71, 3) := by decide +kernel
theorem dX8_reckonPlan_23 : decode cX8_reckonPlan 23 = .ok (.return_, 1) := by decide +kernel
theorem dX9_init_0 : decode cX9_init 0 = .ok (.aload_n 0, 1) := by decide +kernel
theorem dX9_init_1 : decode cX9_init 1 = .ok (.invokespecial 1, 3) := by decide +kernel
theorem dX9_init_4 : decode cX9_init 4 = .ok (.aload_n 0, 1) := by decide +kernel
theorem dX9_init_5 : decode cX9_init 5 = .ok (.iconst 2, 1) := by decide +kernel
theorem dX9_init_6 : decode cX9_init 6 = .ok (.newarray .int, 2) := by decide +kernel
theorem dX9_init_8 : decode cX9_init 8 = .ok (.putfield 7, 3) := by decide +kernel
theorem dX9_init_11 : decode cX9_init 11 = .ok (.aload_n 0, 1) := by decide +kernel
theorem dX9_init_12 : decode cX9_init 12 = .ok (.sipush 160, 3) := by decide +kernel
theorem dX9_init_15 : decode cX9_init 15 = .ok (.newarray .int, 2) := by decide +kernel
theorem dX9_init_17 : decode cX9_init 17 = .ok (.putfield 13, 3) := by decide +kernel
theorem dX9_init_20 : decode cX9_init 20 = .ok (.aload_n 0, 1) := by decide +kernel
theorem dX9_init_21 : decode cX9_init 21 = .ok (.bipush 9, 2) := by decide +kernel
theorem dX9_init_23 : decode cX9_init 23 = .ok (.newarray .int, 2) := by decide +kernel
theorem dX9_init_25 : decode cX9_init 25 = .ok (.putfield 16, 3) := by decide +kernel
theorem dX9_init_28 : decode cX9_init 28 = .ok (.aload_n 0, 1) := by decide +kernel
theorem dX9_init_29 : decode cX9_init 29 = .ok (.bipush 9, 2) := by decide +kernel
theorem dX9_init_31 : decode cX9_init 31 = .ok (.newarray .int, 2) := by decide +kernel
theorem dX9_init_33 : decode cX9_init 33 = .ok (.putfield 19, 3) := by decide +kernel
theorem dX9_init_36 : decode cX9_init 36 = .ok (.aload_n 0, 1) := by decide +kernel
theorem dX9_init_37 : decode cX9_init 37 = .ok (.bipush 9, 2) := by decide +kernel
theorem dX9_init_39 : decode cX9_init 39 = .ok (.newarray .int, 2) := by decide +kernel
theorem dX9_init_41 : decode cX9_init 41 = .ok (.putfield 22, 3) := by decide +kernel
theorem dX9_init_44 : decode cX9_init 44 = .ok (.aload_n 0, 1) := by decide +kernel
theorem dX9_init_45 : decode cX9_init 45 = .ok (.bipush 9, 2) := by decide +kernel
theorem dX9_init_47 : decode cX9_init 47 = .ok (.newarray .int, 2) := by decide +kernel
theorem dX9_init_49 : decode cX9_init 49 = .ok (.putfield 25, 3) := by decide +kernel
theorem dX9_init_52 : decode cX9_init 52 = .ok (.aload_n 0, 1) := by decide +kernel
theorem dX9_init_53 : decode cX9_init 53 = .ok (.bipush 9, 2) := by decide +kernel
theorem dX9_init_55 : decode cX9_init 55 = .ok (.newarray .int, 2) := by decide +kernel
theorem dX9_init_57 : decode cX9_init 57 = .ok (.putfield 28, 3) := by decide +kernel
theorem dX9_init_60 : decode cX9_init 60 = .ok (.aload_n 0, 1) := by decide +kernel
theorem dX9_init_61 : decode cX9_init 61 = .ok (.iconst 4, 1) := by decide +kernel
theorem dX9_init_62 : decode cX9_init 62 = .ok (.newarray .int, 2) := by decide +kernel
theorem dX9_init_64 : decode cX9_init 64 = .ok (.putfield 31, 3) := by decide +kernel
theorem dX9_init_67 : decode cX9_init 67 = .ok (.aload_n 0, 1) := by decide +kernel
theorem dX9_init_68 : decode cX9_init 68 = .ok (.iconst 4, 1) := by decide +kernel
theorem dX9_init_69 : decode cX9_init 69 = .ok (.newarray .int, 2) := by decide +kernel
theorem dX9_init_71 : decode cX9_init 71 = .ok (.putfield 34, 3) := by decide +kernel
theorem dX9_init_74 : decode cX9_init 74 = .ok (.aload_n 0, 1) := by decide +kernel
theorem dX9_init_75 : decode cX9_init 75 = .ok (.iconst 4, 1) := by decide +kernel
theorem dX9_init_76 : decode cX9_init 76 = .ok (.newarray .int, 2) := by decide +kernel
theorem dX9_init_78 : decode cX9_init 78 = .ok (.putfield 37, 3) := by decide +kernel
theorem dX9_init_81 : decode cX9_init 81 = .ok (.aload_n 0, 1) := by decide +kernel
theorem dX9_init_82 : decode cX9_init 82 = .ok (.bipush 8, 2) := by decide +kernel
theorem dX9_init_84 : decode cX9_init 84 = .ok (.newarray .int, 2) := by decide +kernel
theorem dX9_init_86 : decode cX9_init 86 = .ok (.putfield 40, 3) := by decide +kernel
theorem dX9_init_89 : decode cX9_init 89 = .ok (.aload_n 0, 1) := by decide +kernel
theorem dX9_init_90 : decode cX9_init 90 = .ok (.bipush 8, 2) := by decide +kernel
theorem dX9_init_92 : decode cX9_init 92 = .ok (.newarray .int, 2) := by decide +kernel
theorem dX9_init_94 : decode cX9_init 94 = .ok (.putfield 43, 3) := by decide +kernel
theorem dX9_init_97 : decode cX9_init 97 = .ok (.aload_n 0, 1) := by decide +kernel
theorem dX9_init_98 : decode cX9_init 98 = .ok (.bipush 8, 2) := by decide +kernel
theorem dX9_init_100 : decode cX9_init 100 = .ok (.newarray .int, 2) := by decide +kernel
theorem dX9_init_102 : decode cX9_init 102 = .ok (.putfield 46, 3) := by decide +kernel
theorem dX9_init_105 : decode cX9_init 105 = .ok (.aload_n 0, 1) := by decide +kernel
theorem dX9_init_106 : decode cX9_init 106 = .ok (.bipush 8, 2) := by decide +kernel
theorem dX9_init_108 : decode cX9_init 108 = .ok (.newarray .int, 2) := by decide +kernel
theorem dX9_init_110 : decode cX9_init 110 = .ok (.putfield 49, 3) := by decide +kernel
theorem dX9_init_113 : decode cX9_init 113 = .ok (.aload_n 0, 1) := by decide +kernel
theorem dX9_init_114 : decode cX9_init 114 = .ok (.bipush 8, 2) := by decide +kernel
theorem dX9_init_116 : decode cX9_init 116 = .ok (.newarray .int, 2) := by decide +kernel
theorem dX9_init_118 : decode cX9_init 118 = .ok (.putfield 52, 3) := by decide +kernel
theorem dX9_init_121 : decode cX9_init 121 = .ok (.aload_n 0, 1) := by decide +kernel
theorem dX9_init_122 : decode cX9_init 122 = .ok (.iconst 4, 1) := by decide +kernel
theorem dX9_init_123 : decode cX9_init 123 = .ok (.newarray .int, 2) := by decide +kernel
theorem dX9_init_125 : decode cX9_init 125 = .ok (.putfield 55, 3) := by decide +kernel
theorem dX9_init_128 : decode cX9_init 128 = .ok (.aload_n 0, 1) := by decide +kernel
theorem dX9_init_129 : decode cX9_init 129 = .ok (.sipush 2048, 3) := by decide +kernel
theorem dX9_init_132 : decode cX9_init 132 = .ok (.newarray .int, 2) := by decide +kernel
theorem dX9_init_134 : decode cX9_init 134 = .ok (.putfield 58, 3) := by decide +kernel
theorem dX9_init_137 : decode cX9_init 137 = .ok (.aload_n 0, 1) := by decide +kernel
theorem dX9_init_138 : decode cX9_init 138 = .ok (.sipush 256, 3) := by decide +kernel
theorem dX9_init_141 : decode cX9_init 141 = .ok (.newarray .int, 2) := by decide +kernel
theorem dX9_init_143 : decode cX9_init 143 = .ok (.putfield 61, 3) := by decide +kernel
theorem dX9_init_146 : decode cX9_init 146 = .ok (.aload_n 0, 1) := by decide +kernel
theorem dX9_init_147 : decode cX9_init 147 = .ok (.sipush 256, 3) := by decide +kernel
theorem dX9_init_150 : decode cX9_init 150 = .ok (.newarray .int, 2) := by decide +kernel
theorem dX9_init_152 : decode cX9_init 152 = .ok (.putfield 64, 3) := by decide +kernel
theorem dX9_init_155 : decode cX9_init 155 = .ok (.aload_n 0, 1) := by decide +kernel
theorem dX9_init_156 : decode cX9_init 156 = .ok (.bipush 8, 2) := by decide +kernel
theorem dX9_init_158 : decode cX9_init 158 = .ok (.newarray .int, 2) := by decide +kernel
theorem dX9_init_160 : decode cX9_init 160 = .ok (.putfield 67, 3) := by decide +kernel
theorem dX9_init_163 : decode cX9_init 163 = .ok (.aload_n 0, 1) := by decide +kernel
theorem dX9_init_164 : decode cX9_init 164 = .ok (.bipush 10, 2) := by decide +kernel
theorem dX9_init_166 : decode cX9_init 166 = .ok (.newarray .int, 2) := by decide +kernel
theorem dX9_init_168 : decode cX9_init 168 = .ok (.putfield 70, 3) := by decide +kernel
theorem dX9_init_171 : decode cX9_init 171 = .ok (.aload_n 0, 1) := by decide +kernel
theorem dX9_init_172 : decode cX9_init 172 = .ok (.bipush 10, 2) := by decide +kernel
theorem dX9_init_174 : decode cX9_init 174 = .ok (.newarray .int, 2) := by decide +kernel
theorem dX9_init_176 : decode cX9_init 176 = .ok (.putfield 73, 3) := by decide +kernel
theorem dX9_init_179 : decode cX9_init 179 = .ok (.aload_n 0, 1) := by decide +kernel
theorem dX9_init_180 : decode cX9_init 180 = .ok (.bipush 10, 2) := by decide +kernel
theorem dX9_init_182 : decode cX9_init 182 = .ok (.newarray .int, 2) := by decide +kernel
theorem dX9_init_184 : decode cX9_init 184 = .ok (.putfield 76, 3) := by decide +kernel
theorem dX9_init_187 : decode cX9_init 187 = .ok (.aload_n 0, 1) := by decide +kernel
theorem dX9_init_188 : decode cX9_init 188 = .ok (.bipush 10, 2) := by decide +kernel
theorem dX9_init_190 : decode cX9_init 190 = .ok (.newarray .int, 2) := by decide +kernel
theorem dX9_init_192 : decode cX9_init 192 = .ok (.putfield 79, 3) := by decide +kernel
theorem dX9_init_195 : decode cX9_init 195 = .ok (.aload_n 0, 1) := by decide +kernel
theorem dX9_init_196 : decode cX9_init 196 = .ok (.bipush 10, 2) := by decide +kernel
theorem dX9_init_198 : decode cX9_init 198 = .ok (.newarray .int, 2) := by decide +kernel
theorem dX9_init_200 : decode cX9_init 200 = .ok (.putfield 82, 3) := by decide +kernel
theorem dX9_init_203 : decode cX9_init 203 = .ok (.aload_n 0, 1) := by decide +kernel
theorem dX9_init_204 : decode cX9_init 204 = .ok (.iconst 4, 1) := by decide +kernel
theorem dX9_init_205 : decode cX9_init 205 = .ok (.newarray .boolean, 2) := by decide +kernel
theorem dX9_init_207 : decode cX9_init 207 = .ok (.putfield 85, 3) := by decide +kernel
theorem dX9_init_210 : decode cX9_init 210 = .ok (.aload_n 0, 1) := by decide +kernel
theorem dX9_init_211 : decode cX9_init 211 = .ok (.iconst 4, 1) := by decide +kernel
theorem dX9_init_212 : decode cX9_init 212 = .ok (.newarray .int, 2) := by decide +kernel
theorem dX9_init_214 : decode cX9_init 214 = .ok (.putfield 89, 3) := by decide +kernel
theorem dX9_init_217 : decode cX9_init 217 = .ok (.aload_n 0, 1) := by decide +kernel
theorem dX9_init_218 : decode cX9_init 218 = .ok (.iconst 4, 1) := by decide +kernel
theorem dX9_init_219 : decode cX9_init 219 = .ok (.newarray .int, 2) := by decide +kernel
theorem dX9_init_221 : decode cX9_init 221 = .ok (.putfield 92, 3) := by decide +kernel
theorem dX9_init_224 : decode cX9_init 224 = .ok (.aload_n 0, 1) := by decide +kernel
theorem dX9_init_225 : decode cX9_init 225 = .ok (.sipush 240, 3) := by decide +kernel
theorem dX9_init_228 : decode cX9_init 228 = .ok (.newarray .int, 2) := by decide +kernel
theorem dX9_init_230 : decode cX9_init 230 = .ok (.putfield 95, 3) := by decide +kernel
theorem dX9_init_233 : decode cX9_init 233 = .ok (.aload_n 0, 1) := by decide +kernel
theorem dX9_init_234 : decode cX9_init 234 = .ok (.bipush 60, 2) := by decide +kernel
theorem dX9_init_236 : decode cX9_init 236 = .ok (.newarray .int, 2) := by decide +kernel
theorem dX9_init_238 : decode cX9_init 238 = .ok (.putfield 98, 3) := by decide +kernel
theorem dX9_init_241 : decode cX9_init 241 = .ok (.iconst 0, 1) := by decide +kernel
theorem dX9_init_242 : decode cX9_init 242 = .ok (.istore_n 1, 1) := by decide +kernel
theorem dX9_init_243 : decode cX9_init 243 = .ok (.iload_n 1, 1) := by decide +kernel
theorem dX9_init_244 : decode cX9_init 244 = .ok (.bipush 8, 2) := by decide +kernel
theorem dX9_init_246 : decode cX9_init 246 = .ok (.if_icmp .ge 32, 3) := by decide +kernel
theorem dX9_init_249 : decode cX9_init 249 = .ok (.aload_n 0, 1) := by decide +kernel
theorem dX9_init_250 : decode cX9_init 250 = .ok (.getfield 43, 3) := by decide +kernel
theorem dX9_init_253 : decode cX9_init 253 = .ok (.iload_n 1, 1) := by decide +kernel
theorem dX9_init_254 : decode cX9_init 254 = .ok (.bipush 8, 2) := by decide +kernel
theorem dX9_init_256 : decode cX9_init 256 = .ok (.iastore, 1) := by decide +kernel
theorem dX9_init_257 : decode cX9_init 257 = .ok (.aload_n 0, 1) := by decide +kernel
theorem dX9_init_258 : decode cX9_init 258 = .ok (.getfield 46, 3) := by decide +kernel
theorem dX9_init_261 : decode cX9_init 261 = .ok (.iload_n 1, 1) := by decide +kernel
theorem dX9_init_262 : decode cX9_init 262 = .ok (.iconst 1, 1) := by decide +kernel
theorem dX9_init_263 : decode cX9_init 263 = .ok (.iastore, 1) := by decide +kernel
theorem dX9_init_264 : decode cX9_init 264 = .ok (.aload_n 0, 1) := by decide +kernel
theorem dX9_init_265 : decode cX9_init 265 = .ok (.getfield 49, 3) := by decide +kernel
theorem dX9_init_268 : decode cX9_init 268 = .ok (.iload_n 1, 1) := by decide +kernel
theorem dX9_init_269 : decode cX9_init 269 = .ok (.bipush 16, 2) := by decide +kernel
theorem dX9_init_271 : decode cX9_init 271 = .ok (.iastore, 1) := by decide +kernel
theorem dX9_init_272 : decode cX9_init 272 = .ok (.iinc 1 1, 3) := by decide +kernel
theorem dX9_init_275 : decode cX9_init 275 = .ok (.goto (-32), 3) := by decide +kernel
theorem dX9_init_278 : decode cX9_init 278 = .ok (.aload_n 0, 1) := by decide +kernel
theorem dX9_init_279 : decode cX9_init 279 = .ok (.getfield 55, 3) := by decide +kernel
theorem dX9_init_282 : decode cX9_init 282 = .ok (.iconst 0, 1) := by decide +kernel
theorem dX9_init_283 : decode cX9_init 283 = .ok (.bipush 9, 2) := by decide +kernel
theorem dX9_init_285 : decode cX9_init 285 = .ok (.iastore, 1) := by decide +kernel
theorem dX9_init_286 : decode cX9_init 286 = .ok (.aload_n 0, 1) := by decide +kernel
theorem dX9_init_287 : decode cX9_init 287 = .ok (.getfield 55, 3) := by decide +kernel
theorem dX9_init_290 : decode cX9_init 290 = .ok (.iconst 2, 1) := by decide +kernel
theorem dX9_init_291 : decode cX9_init 291 = .ok (.sipush 999, 3) := by decide +kernel
theorem dX9_init_294 : decode cX9_init 294 = .ok (.iastore, 1) := by decide +kernel
theorem dX9_init_295 : decode cX9_init 295 = .ok (.aload_n 0, 1) := by decide +kernel
theorem dX9_init_296 : decode cX9_init 296 = .ok (.getfield 55, 3) := by decide +kernel
theorem dX9_init_299 : decode cX9_init 299 = .ok (.iconst 3, 1) := by decide +kernel
theorem dX9_init_300 : decode cX9_init 300 = .ok (.bipush 6, 2) := by decide +kernel
theorem dX9_init_302 : decode cX9_init 302 = .ok (.iastore, 1) := by decide +kernel
theorem dX9_init_303 : decode cX9_init 303 = .ok (.return_, 1) := by decide +kernel
theorem dX9_in_0 : decode cX9_in 0 = .ok (.iload_n 0, 1) := by decide +kernel
theorem dX9_in_1 : decode cX9_in 1 = .ok (.iload_n 1, 1) := by decide +kernel
theorem dX9_in_2 : decode cX9_in 2 = .ok (.if_icmp .lt 12, 3) := by decide +kernel
theorem dX9_in_5 : decode cX9_in 5 = .ok (.iload_n 0, 1) := by decide +kernel
theorem dX9_in_6 : decode cX9_in 6 = .ok (.iload_n 2, 1) := by decide +kernel
theorem dX9_in_7 : decode cX9_in 7 = .ok (.if_icmp .gt 7, 3) := by decide +kernel
theorem dX9_in_10 : decode cX9_in 10 = .ok (.iconst 1, 1) := by decide +kernel
theorem dX9_in_11 : decode cX9_in 11 = .ok (.goto 4, 3) := by decide +kernel
theorem dX9_in_14 : decode cX9_in 14 = .ok (.iconst 0, 1) := by decide +kernel
theorem dX9_in_15 : decode cX9_in 15 = .ok (.ireturn, 1) := by decide +kernel
theorem dX9_isIn_0 : decode cX9_isIn 0 = .ok (.iload_n 0, 1) := by decide +kernel
theorem dX9_isIn_1 : decode cX9_isIn 1 = .ok (.iload_n 1, 1) := by decide +kernel
theorem dX9_isIn_2 : decode cX9_isIn 2 = .ok (.ishr, 1) := by decide +kernel
theorem dX9_isIn_3 : decode cX9_isIn 3 = .ok (.iconst 1, 1) := by decide +kernel
theorem dX9_isIn_4 : decode cX9_isIn 4 = .ok (.iand, 1) := by decide +kernel
theorem dX9_isIn_5 : decode cX9_isIn 5 = .ok (.iconst 1, 1) := by decide +kernel
theorem dX9_isIn_6 : decode cX9_isIn 6 = .ok (.if_icmp .ne 7, 3) := by decide +kernel
theorem dX9_isIn_9 : decode cX9_isIn 9 = .ok (.iconst 1, 1) := by decide +kernel
theorem dX9_isIn_10 : decode cX9_isIn 10 = .ok (.goto 4, 3) := by decide +kernel
theorem dX9_isIn_13 : decode cX9_isIn 13 = .ok (.iconst 0, 1) := by decide +kernel
theorem dX9_isIn_14 : decode cX9_isIn 14 = .ok (.ireturn, 1) := by decide +kernel
theorem dX9_ones_0 : decode cX9_ones 0 = .ok (.iconst 0, 1) := by decide +kernel
theorem dX9_ones_1 : decode cX9_ones 1 = .ok (.istore_n 1, 1) := by decide +kernel
theorem dX9_ones_2 : decode cX9_ones 2 = .ok (.iconst 0, 1) := by decide +kernel
theorem dX9_ones_3 : decode cX9_ones 3 = .ok (.istore_n 2, 1) := by decide +kernel
theorem dX9_ones_4 : decode cX9_ones 4 = .ok (.iload_n 2, 1) := by decide +kernel
theorem dX9_ones_5 : decode cX9_ones 5 = .ok (.bipush 10, 2) := by decide +kernel
theorem dX9_ones_7 : decode cX9_ones 7 = .ok (.if_icmp .ge 17, 3) := by decide +kernel
theorem dX9_ones_10 : decode cX9_ones 10 = .ok (.iload_n 1, 1) := by decide +kernel
theorem dX9_ones_11 : decode cX9_ones 11 = .ok (.iload_n 0, 1) := by decide +kernel
theorem dX9_ones_12 : decode cX9_ones 12 = .ok (.iload_n 2, 1) := by decide +kernel
theorem dX9_ones_13 : decode cX9_ones 13 = .ok (.ishr, 1) := by decide +kernel
theorem dX9_ones_14 : decode cX9_ones 14 = .ok (.iconst 1, 1) := by decide +kernel
theorem dX9_ones_15 : decode cX9_ones 15 = .ok (.iand, 1) := by decide +kernel
theorem dX9_ones_16 : decode cX9_ones 16 = .ok (.iadd, 1) := by decide +kernel
theorem dX9_ones_17 : decode cX9_ones 17 = .ok (.istore_n 1, 1) := by decide +kernel
theorem dX9_ones_18 : decode cX9_ones 18 = .ok (.iinc 2 1, 3) := by decide +kernel
theorem dX9_ones_21 : decode cX9_ones 21 = .ok (.goto (-17), 3) := by decide +kernel
theorem dX9_ones_24 : decode cX9_ones 24 = .ok (.iload_n 1, 1) := by decide +kernel
theorem dX9_ones_25 : decode cX9_ones 25 = .ok (.ireturn, 1) := by decide +kernel
theorem dX9_no_0 : decode cX9_no 0 = .ok (.ldc2_w 101, 3) := by decide +kernel
theorem dX9_no_3 : decode cX9_no 3 = .ok (.iload_n 0, 1) := by decide +kernel
theorem dX9_no_4 : decode cX9_no 4 = .ok (.i2l, 1) := by decide +kernel
theorem dX9_no_5 : decode cX9_no 5 = .ok (.lsub, 1) := by decide +kernel
theorem dX9_no_6 : decode cX9_no 6 = .ok (.lreturn, 1) := by decide +kernel
theorem dX9_lowest_0 : decode cX9_lowest 0 = .ok (.lload_n 0, 1) := by decide +kernel
theorem dX9_lowest_1 : decode cX9_lowest 1 = .ok (.lstore 5, 2) := by decide +kernel
theorem dX9_lowest_3 : decode cX9_lowest 3 = .ok (.lload_n 2, 1) := by decide +kernel
theorem dX9_lowest_4 : decode cX9_lowest 4 = .ok (.lstore 7, 2) := by decide +kernel
theorem dX9_lowest_6 : decode cX9_lowest 6 = .ok (.lload 7, 2) := by decide +kernel
theorem dX9_lowest_8 : decode cX9_lowest 8 = .ok (.lconst 0, 1) := by decide +kernel
theorem dX9_lowest_9 : decode cX9_lowest 9 = .ok (.lcmp, 1) := by decide +kernel
theorem dX9_lowest_10 : decode cX9_lowest 10 = .ok (.ifCond .eq 21, 3) := by decide +kernel
theorem dX9_lowest_13 : decode cX9_lowest 13 = .ok (.lload 5, 2) := by decide +kernel
theorem dX9_lowest_15 : decode cX9_lowest 15 = .ok (.lload 7, 2) := by decide +kernel
theorem dX9_lowest_17 : decode cX9_lowest 17 = .ok (.lrem, 1) := by decide +kernel
theorem dX9_lowest_18 : decode cX9_lowest 18 = .ok (.lstore 9, 2) := by decide +kernel
theorem dX9_lowest_20 : decode cX9_lowest 20 = .ok (.lload 7, 2) := by decide +kernel
theorem dX9_lowest_22 : decode cX9_lowest 22 = .ok (.lstore 5, 2) := by decide +kernel
theorem dX9_lowest_24 : decode cX9_lowest 24 = .ok (.lload 9, 2) := by decide +kernel
theorem dX9_lowest_26 : decode cX9_lowest 26 = .ok (.lstore 7, 2) := by decide +kernel
theorem dX9_lowest_28 : decode cX9_lowest 28 = .ok (.goto (-22), 3) := by decide +kernel
theorem dX9_lowest_31 : decode cX9_lowest 31 = .ok (.iload 4, 2) := by decide +kernel
theorem dX9_lowest_33 : decode cX9_lowest 33 = .ok (.ifCond .ne 10, 3) := by decide +kernel
theorem dX9_lowest_36 : decode cX9_lowest 36 = .ok (.lload_n 0, 1) := by decide +kernel
theorem dX9_lowest_37 : decode cX9_lowest 37 = .ok (.lload 5, 2) := by decide +kernel
theorem dX9_lowest_39 : decode cX9_lowest 39 = .ok (.ldiv, 1) := by decide +kernel
theorem dX9_lowest_40 : decode cX9_lowest 40 = .ok (.goto 7, 3) := by decide +kernel
theorem dX9_lowest_43 : decode cX9_lowest 43 = .ok (.lload_n 2, 1) := by decide +kernel
theorem dX9_lowest_44 : decode cX9_lowest 44 = .ok (.lload 5, 2) := by decide +kernel
theorem dX9_lowest_46 : decode cX9_lowest 46 = .ok (.ldiv, 1) := by decide +kernel
theorem dX9_lowest_47 : decode cX9_lowest 47 = .ok (.lreturn, 1) := by decide +kernel
theorem dX9_choose_0 : decode cX9_choose 0 = .ok (.iload_n 1, 1) := by decide +kernel
theorem dX9_choose_1 : decode cX9_choose 1 = .ok (.ifCond .lt 8, 3) := by decide +kernel
theorem dX9_choose_4 : decode cX9_choose 4 = .ok (.iload_n 1, 1) := by decide +kernel
theorem dX9_choose_5 : decode cX9_choose 5 = .ok (.iload_n 0, 1) := by decide +kernel
theorem dX9_choose_6 : decode cX9_choose 6 = .ok (.if_icmp .le 7, 3) := by decide +kernel
theorem dX9_choose_9 : decode cX9_choose 9 = .ok (.lconst 0, 1) := by decide +kernel
theorem dX9_choose_10 : decode cX9_choose 10 = .ok (.goto 4, 3) := by decide +kernel
theorem dX9_choose_13 : decode cX9_choose 13 = .ok (.lconst 1, 1) := by decide +kernel
theorem dX9_choose_14 : decode cX9_choose 14 = .ok (.lstore_n 2, 1) := by decide +kernel
theorem dX9_choose_15 : decode cX9_choose 15 = .ok (.iconst 1, 1) := by decide +kernel
theorem dX9_choose_16 : decode cX9_choose 16 = .ok (.istore 4, 2) := by decide +kernel
theorem dX9_choose_18 : decode cX9_choose 18 = .ok (.iload 4, 2) := by decide +kernel
theorem dX9_choose_20 : decode cX9_choose 20 = .ok (.iload_n 1, 1) := by decide +kernel
theorem dX9_choose_21 : decode cX9_choose 21 = .ok (.if_icmp .gt 29, 3) := by decide +kernel
theorem dX9_choose_24 : decode cX9_choose 24 = .ok (.lload_n 2, 1) := by decide +kernel
theorem dX9_choose_25 : decode cX9_choose 25 = .ok (.lconst 0, 1) := by decide +kernel
theorem dX9_choose_26 : decode cX9_choose 26 = .ok (.lcmp, 1) := by decide +kernel
theorem dX9_choose_27 : decode cX9_choose 27 = .ok (.ifCond .le 23, 3) := by decide +kernel
theorem dX9_choose_30 : decode cX9_choose 30 = .ok (.lload_n 2, 1) := by decide +kernel
theorem dX9_choose_31 : decode cX9_choose 31 = .ok (.iload_n 0, 1) := by decide +kernel
theorem dX9_choose_32 : decode cX9_choose 32 = .ok (.iload_n 1, 1) := by decide +kernel
theorem dX9_choose_33 : decode cX9_choose 33 = .ok (.isub, 1) := by decide +kernel
theorem dX9_choose_34 : decode cX9_choose 34 = .ok (.iload 4, 2) := by decide +kernel
theorem dX9_choose_36 : decode cX9_choose 36 = .ok (.iadd, 1) := by decide +kernel
theorem dX9_choose_37 : decode cX9_choose 37 = .ok (.i2l, 1) := by decide +kernel
theorem dX9_choose_38 : decode cX9_choose 38 = .ok (.lmul, 1) := by decide +kernel
theorem dX9_choose_39 : decode cX9_choose 39 = .ok (.iload 4, 2) := by decide +kernel
theorem dX9_choose_41 : decode cX9_choose 41 = .ok (.i2l, 1) := by decide +kernel
theorem dX9_choose_42 : decode cX9_choose 42 = .ok (.ldiv, 1) := by decide +kernel
theorem dX9_choose_43 : decode cX9_choose 43 = .ok (.lstore_n 2, 1) := by decide +kernel
theorem dX9_choose_44 : decode cX9_choose 44 = .ok (.iinc 4 1, 3) := by decide +kernel
theorem dX9_choose_47 : decode cX9_choose 47 = .ok (.goto (-29), 3) := by decide +kernel
theorem dX9_choose_50 : decode cX9_choose 50 = .ok (.lload_n 2, 1) := by decide +kernel
theorem dX9_choose_51 : decode cX9_choose 51 = .ok (.lreturn, 1) := by decide +kernel
theorem dX9_type_0 : decode cX9_type 0 = .ok (.iload_n 1, 1) := by decide +kernel
theorem dX9_type_1 : decode cX9_type 1 = .ok (.iconst 0, 1) := by decide +kernel
theorem dX9_type_2 : decode cX9_type 2 = .ok (.iconst 1, 1) := by decide +kernel
theorem dX9_type_3 : decode cX9_type 3 = .ok (.invokestatic 103, 3) := by decide +kernel
theorem dX9_type_6 : decode cX9_type 6 = .ok (.ifCond .eq 14, 3) := by decide +kernel
theorem dX9_type_9 : decode cX9_type 9 = .ok (.iload_n 2, 1) := by decide +kernel
theorem dX9_type_10 : decode cX9_type 10 = .ok (.iconst 0, 1) := by decide +kernel
theorem dX9_type_11 : decode cX9_type 11 = .ok (.sipush 255, 3) := by decide +kernel
theorem dX9_type_14 : decode cX9_type 14 = .ok (.invokestatic 103, 3) := by decide +kernel
theorem dX9_type_17 : decode cX9_type 17 = .ok (.ifCond .ne 6, 3) := by decide +kernel
theorem dX9_type_20 : decode cX9_type 20 = .ok (.bipush (-2), 2) := by decide +kernel
theorem dX9_type_22 : decode cX9_type 22 = .ok (.ireturn, 1) := by decide +kernel
theorem dX9_type_23 : decode cX9_type 23 = .ok (.aload_n 0, 1) := by decide +kernel
theorem dX9_type_24 : decode cX9_type 24 = .ok (.getfield 7, 3) := by decide +kernel
theorem dX9_type_27 : decode cX9_type 27 = .ok (.iload_n 1, 1) := by decide +kernel
theorem dX9_type_28 : decode cX9_type 28 = .ok (.iaload, 1) := by decide +kernel
theorem dX9_type_29 : decode cX9_type 29 = .ok (.iload_n 1, 1) := by decide +kernel
theorem dX9_type_30 : decode cX9_type 30 = .ok (.ifCond .ne 8, 3) := by decide +kernel
theorem dX9_type_33 : decode cX9_type 33 = .ok (.bipush 80, 2) := by decide +kernel
theorem dX9_type_35 : decode cX9_type 35 = .ok (.goto 5, 3) := by decide +kernel
theorem dX9_type_38 : decode cX9_type 38 = .ok (.bipush 40, 2) := by decide +kernel
theorem dX9_type_40 : decode cX9_type 40 = .ok (.if_icmp .ne 6, 3) := by decide +kernel
theorem dX9_type_43 : decode cX9_type 43 = .ok (.bipush (-4), 2) := by decide +kernel
theorem dX9_type_45 : decode cX9_type 45 = .ok (.ireturn, 1) := by decide +kernel
theorem dX9_type_46 : decode cX9_type 46 = .ok (.aload_n 0, 1) := by decide +kernel
theorem dX9_type_47 : decode cX9_type 47 = .ok (.getfield 13, 3) := by decide +kernel
theorem dX9_type_50 : decode cX9_type 50 = .ok (.bipush 80, 2) := by decide +kernel
theorem dX9_type_52 : decode cX9_type 52 = .ok (.iload_n 1, 1) := by decide +kernel
theorem dX9_type_53 : decode cX9_type 53 = .ok (.imul, 1) := by decide +kernel
theorem dX9_type_54 : decode cX9_type 54 = .ok (.aload_n 0, 1) := by decide +kernel
theorem dX9_type_55 : decode cX9_type 55 = .ok (.getfield 7, 3) := by decide +kernel
theorem dX9_type_58 : decode cX9_type 58 = .ok (.iload_n 1, 1) := by decide +kernel
theorem dX9_type_59 : decode cX9_type 59 = .ok (.iaload, 1) := by decide +kernel
theorem dX9_type_60 : decode cX9_type 60 = .ok (.iadd, 1) := by decide +kernel
theorem dX9_type_61 : decode cX9_type 61 = .ok (.iload_n 2, 1) := by decide +kernel
theorem dX9_type_62 : decode cX9_type 62 = .ok (.iastore, 1) := by decide +kernel
theorem dX9_type_63 : decode cX9_type 63 = .ok (.aload_n 0, 1) := by decide +kernel
theorem dX9_type_64 : decode cX9_type 64 = .ok (.getfield 7, 3) := by decide +kernel
theorem dX9_type_67 : decode cX9_type 67 = .ok (.iload_n 1, 1) := by decide +kernel
theorem dX9_type_68 : decode cX9_type 68 = .ok (.dup2, 1) := by decide +kernel
theorem dX9_type_69 : decode cX9_type 69 = .ok (.iaload, 1) := by decide +kernel
theorem dX9_type_70 : decode cX9_type 70 = .ok (.iconst 1, 1) := by decide +kernel
theorem dX9_type_71 : decode cX9_type 71 = .ok (.iadd, 1) := by decide +kernel
theorem dX9_type_72 : decode cX9_type 72 = .ok (.iastore, 1) := by decide +kernel
theorem dX9_type_73 : decode cX9_type 73 = .ok (.aload_n 0, 1) := by decide +kernel
theorem dX9_type_74 : decode cX9_type 74 = .ok (.getfield 7, 3) := by decide +kernel
theorem dX9_type_77 : decode cX9_type 77 = .ok (.iload_n 1, 1) := by decide +kernel
theorem dX9_type_78 : decode cX9_type 78 = .ok (.iaload, 1) := by decide +kernel
theorem dX9_type_79 : decode cX9_type 79 = .ok (.ireturn, 1) := by decide +kernel
theorem dX9_wipe_0 : decode cX9_wipe 0 = .ok (.iload_n 1, 1) := by decide +kernel
theorem dX9_wipe_1 : decode cX9_wipe 1 = .ok (.iconst 0, 1) := by decide +kernel
theorem dX9_wipe_2 : decode cX9_wipe 2 = .ok (.iconst 1, 1) := by decide +kernel
theorem dX9_wipe_3 : decode cX9_wipe 3 = .ok (.invokestatic 103, 3) := by decide +kernel
theorem dX9_wipe_6 : decode cX9_wipe 6 = .ok (.ifCond .ne 6, 3) := by decide +kernel
theorem dX9_wipe_9 : decode cX9_wipe 9 = .ok (.bipush (-2), 2) := by decide +kernel
theorem dX9_wipe_11 : decode cX9_wipe 11 = .ok (.ireturn, 1) := by decide +kernel
theorem dX9_wipe_12 : decode cX9_wipe 12 = .ok (.aload_n 0, 1) := by decide +kernel
theorem dX9_wipe_13 : decode cX9_wipe 13 = .ok (.getfield 7, 3) := by decide +kernel
theorem dX9_wipe_16 : decode cX9_wipe 16 = .ok (.iload_n 1, 1) := by decide +kernel
theorem dX9_wipe_17 : decode cX9_wipe 17 = .ok (.iaload, 1) := by decide +kernel
theorem dX9_wipe_18 : decode cX9_wipe 18 = .ok (.istore_n 2, 1) := by decide +kernel
theorem dX9_wipe_19 : decode cX9_wipe 19 = .ok (.aload_n 0, 1) := by decide +kernel
theorem dX9_wipe_20 : decode cX9_wipe 20 = .ok (.getfield 7, 3) := by decide +kernel
theorem dX9_wipe_23 : decode cX9_wipe 23 = .ok (.iload_n 1, 1) := by decide +kernel
theorem dX9_wipe_24 : decode cX9_wipe 24 = .ok (.iconst 0, 1) := by decide +kernel
theorem dX9_wipe_25 : decode cX9_wipe 25 = .ok (.iastore, 1) := by decide +kernel
theorem dX9_wipe_26 : decode cX9_wipe 26 = .ok (.iload_n 2, 1) := by decide +kernel
theorem dX9_wipe_27 : decode cX9_wipe 27 = .ok (.ireturn, 1) := by decide +kernel
theorem dX9_byteAt_0 : decode cX9_byteAt 0 = .ok (.iload_n 2, 1) := by decide +kernel
theorem dX9_byteAt_1 : decode cX9_byteAt 1 = .ok (.aload_n 0, 1) := by decide +kernel
theorem dX9_byteAt_2 : decode cX9_byteAt 2 = .ok (.getfield 7, 3) := by decide +kernel
theorem dX9_byteAt_5 : decode cX9_byteAt 5 = .ok (.iload_n 1, 1) := by decide +kernel
theorem dX9_byteAt_6 : decode cX9_byteAt 6 = .ok (.iaload, 1) := by decide +kernel
theorem dX9_byteAt_7 : decode cX9_byteAt 7 = .ok (.if_icmp .ge 17, 3) := by decide +kernel
theorem dX9_byteAt_10 : decode cX9_byteAt 10 = .ok (.aload_n 0, 1) := by decide +kernel
theorem dX9_byteAt_11 : decode cX9_byteAt 11 = .ok (.getfield 13, 3) := by decide +kernel
theorem dX9_byteAt_14 : decode cX9_byteAt 14 = .ok (.bipush 80, 2) := by decide +kernel
theorem dX9_byteAt_16 : decode cX9_byteAt 16 = .ok (.iload_n 1, 1) := by decide +kernel
theorem dX9_byteAt_17 : decode cX9_byteAt 17 = .ok (.imul, 1) := by decide +kernel
theorem dX9_byteAt_18 : decode cX9_byteAt 18 = .ok (.iload_n 2, 1) := by decide +kernel
theorem dX9_byteAt_19 : decode cX9_byteAt 19 = .ok (.iadd, 1) := by decide +kernel
theorem dX9_byteAt_20 : decode cX9_byteAt 20 = .ok (.iaload, 1) := by decide +kernel
theorem dX9_byteAt_21 : decode cX9_byteAt 21 = .ok (.goto 4, 3) := by decide +kernel
theorem dX9_byteAt_24 : decode cX9_byteAt 24 = .ok (.iconst (-1), 1) := by decide +kernel
theorem dX9_byteAt_25 : decode cX9_byteAt 25 = .ok (.ireturn, 1) := by decide +kernel
theorem dX9_kindBy_0 : decode cX9_kindBy 0 = .ok (.iload_n 0, 1) := by decide +kernel
theorem dX9_kindBy_1 : decode cX9_kindBy 1 = .ok (.bipush 112, 2) := by decide +kernel
theorem dX9_kindBy_3 : decode cX9_kindBy 3 = .ok (.if_icmp .ne 7, 3) := by decide +kernel
theorem dX9_kindBy_6 : decode cX9_kindBy 6 = .ok (.iconst 0, 1) := by decide +kernel
theorem dX9_kindBy_7 : decode cX9_kindBy 7 = .ok (.goto 34, 3) := by decide +kernel
theorem dX9_kindBy_10 : decode cX9_kindBy 10 = .ok (.iload_n 0, 1) := by decide +kernel
theorem dX9_kindBy_11 : decode cX9_kindBy 11 = .ok (.bipush 114, 2) := by decide +kernel
theorem dX9_kindBy_13 : decode cX9_kindBy 13 = .ok (.if_icmp .ne 7, 3) := by decide +kernel
theorem dX9_kindBy_16 : decode cX9_kindBy 16 = .ok (.iconst 1, 1) := by decide +kernel
theorem dX9_kindBy_17 : decode cX9_kindBy 17 = .ok (.goto 24, 3) := by decide +kernel
theorem dX9_kindBy_20 : decode cX9_kindBy 20 = .ok (.iload_n 0, 1) := by decide +kernel
theorem dX9_kindBy_21 : decode cX9_kindBy 21 = .ok (.bipush 116, 2) := by decide +kernel
theorem dX9_kindBy_23 : decode cX9_kindBy 23 = .ok (.if_icmp .ne 7, 3) := by decide +kernel
theorem dX9_kindBy_26 : decode cX9_kindBy 26 = .ok (.iconst 2, 1) := by decide +kernel
theorem dX9_kindBy_27 : decode cX9_kindBy 27 = .ok (.goto 14, 3) := by decide +kernel
theorem dX9_kindBy_30 : decode cX9_kindBy 30 = .ok (.iload_n 0, 1) := by decide +kernel
theorem dX9_kindBy_31 : decode cX9_kindBy 31 = .ok (.bipush 115, 2) := by decide +kernel
theorem dX9_kindBy_33 : decode cX9_kindBy 33 = .ok (.if_icmp .ne 7, 3) := by decide +kernel
theorem dX9_kindBy_36 : decode cX9_kindBy 36 = .ok (.iconst 3, 1) := by decide +kernel
theorem dX9_kindBy_37 : decode cX9_kindBy 37 = .ok (.goto 4, 3) := by decide +kernel
theorem dX9_kindBy_40 : decode cX9_kindBy 40 = .ok (.iconst (-1), 1) := by decide +kernel
theorem dX9_kindBy_41 : decode cX9_kindBy 41 = .ok (.ireturn, 1) := by decide +kernel
theorem dX9_readsDeeds_0 : decode cX9_readsDeeds 0 = .ok (.aload_n 0, 1) := by decide +kernel
theorem dX9_readsDeeds_1 : decode cX9_readsDeeds 1 = .ok (.iconst 0, 1) := by decide +kernel
theorem dX9_readsDeeds_2 : decode cX9_readsDeeds 2 = .ok (.putfield 107, 3) := by decide +kernel
theorem dX9_readsDeeds_5 : decode cX9_readsDeeds 5 = .ok (.iconst 0, 1) := by decide +kernel
theorem dX9_readsDeeds_6 : decode cX9_readsDeeds 6 = .ok (.istore_n 1, 1) := by decide +kernel
theorem dX9_readsDeeds_7 : decode cX9_readsDeeds 7 = .ok (.iconst 0, 1) := by decide +kernel
theorem dX9_readsDeeds_8 : decode cX9_readsDeeds 8 = .ok (.istore_n 2, 1) := by decide +kernel
theorem dX9_readsDeeds_9 : decode cX9_readsDeeds 9 = .ok (.iload_n 2, 1) := by decide +kernel
theorem dX9_readsDeeds_10 : decode cX9_readsDeeds 10 = .ok (.aload_n 0, 1) := by decide +kernel
theorem dX9_readsDeeds_11 : decode cX9_readsDeeds 11 = .ok (.getfield 7, 3) := by decide +kernel
theorem dX9_readsDeeds_14 : decode cX9_readsDeeds 14 = .ok (.iconst 0, 1) := by decide +kernel
theorem dX9_readsDeeds_15 : decode cX9_readsDeeds 15 = .ok (.iaload, 1) := by decide +kernel
theorem dX9_readsDeeds_16 : decode cX9_readsDeeds 16 = .ok (.if_icmp .lt 7, 3) := by decide +kernel
theorem dX9_readsDeeds_19 : decode cX9_readsDeeds 19 = .ok (.iload_n 2, 1) := by decide +kernel
theorem dX9_readsDeeds_20 : decode cX9_readsDeeds 20 = .ok (.ifCond .le 281, 3) := by decide +kernel
theorem dX9_readsDeeds_23 : decode cX9_readsDeeds 23 = .ok (.iload_n 1, 1) := by decide +kernel
theorem dX9_readsDeeds_24 : decode cX9_readsDeeds 24 = .ok (.bipush 8, 2) := by decide +kernel
theorem dX9_readsDeeds_26 : decode cX9_readsDeeds 26 = .ok (.if_icmp .eq 16, 3) := by decide +kernel
theorem dX9_readsDeeds_29 : decode cX9_readsDeeds 29 = .ok (.aload_n 0, 1) := by decide +kernel
theorem dX9_readsDeeds_30 : decode cX9_readsDeeds 30 = .ok (.iconst 0, 1) := by decide +kernel
theorem dX9_readsDeeds_31 : decode cX9_readsDeeds 31 = .ok (.iload_n 2, 1) := by decide +kernel
theorem dX9_readsDeeds_32 : decode cX9_readsDeeds 32 = .ok (.invokevirtual 111, 3) := by decide +kernel
theorem dX9_readsDeeds_35 : decode cX9_readsDeeds 35 = .ok (.invokestatic 115, 3) := by decide +kernel
theorem dX9_readsDeeds_38 : decode cX9_readsDeeds 38 = .ok (.iconst (-1), 1) := by decide +kernel
theorem dX9_readsDeeds_39 : decode cX9_readsDeeds 39 = .ok (.if_icmp .ne 5, 3) := by decide +kernel
theorem dX9_readsDeeds_42 : decode cX9_readsDeeds 42 = .ok (.iload_n 2, 1) := by decide +kernel
theorem dX9_readsDeeds_43 : decode cX9_readsDeeds 43 = .ok (.ireturn, 1) := by decide +kernel
theorem dX9_readsDeeds_44 : decode cX9_readsDeeds 44 = .ok (.aload_n 0, 1) := by decide +kernel
theorem dX9_readsDeeds_45 : decode cX9_readsDeeds 45 = .ok (.iconst 0, 1) := by decide +kernel
theorem dX9_readsDeeds_46 : decode cX9_readsDeeds 46 = .ok (.iload_n 2, 1) := by decide +kernel
theorem dX9_readsDeeds_47 : decode cX9_readsDeeds 47 = .ok (.iconst 1, 1) := by decide +kernel
end
section
theorem dX9_readsDeeds_48 : decode cX9_readsDeeds 48 = .ok (.iadd, 1) := by decide +kernel
theorem dX9_readsDeeds_49 : decode cX9_readsDeeds 49 = .ok (.invokevirtual 111, 3) := by decide +kernel
theorem dX9_readsDeeds_52 : decode cX9_readsDeeds 52 = .ok (.bipush 48, 2) := by decide +kernel
theorem dX9_readsDeeds_54 : decode cX9_readsDeeds 54 = .ok (.bipush 53, 2) := by decide +kernel
theorem dX9_readsDeeds_56 : decode cX9_readsDeeds 56 = .ok (.invokestatic 103, 3) := by decide +kernel
theorem dX9_readsDeeds_59 : decode cX9_readsDeeds 59 = .ok (.ifCond .ne 7, 3) := by decide +kernel
theorem dX9_readsDeeds_62 : decode cX9_readsDeeds 62 = .ok (.iload_n 2, 1) := by decide +kernel
theorem dX9_readsDeeds_63 : decode cX9_readsDeeds 63 = .ok (.iconst 1, 1) := by decide +kernel
theorem dX9_readsDeeds_64 : decode cX9_readsDeeds 64 = .ok (.iadd, 1) := by decide +kernel
theorem dX9_readsDeeds_65 : decode cX9_readsDeeds 65 = .ok (.ireturn, 1) := by decide +kernel
theorem dX9_readsDeeds_66 : decode cX9_readsDeeds 66 = .ok (.aload_n 0, 1) := by decide +kernel
theorem dX9_readsDeeds_67 : decode cX9_readsDeeds 67 = .ok (.iconst 0, 1) := by decide +kernel
theorem dX9_readsDeeds_68 : decode cX9_readsDeeds 68 = .ok (.iload_n 2, 1) := by decide +kernel
theorem dX9_readsDeeds_69 : decode cX9_readsDeeds 69 = .ok (.iconst 2, 1) := by decide +kernel
theorem dX9_readsDeeds_70 : decode cX9_readsDeeds 70 = .ok (.iadd, 1) := by decide +kernel
theorem dX9_readsDeeds_71 : decode cX9_readsDeeds 71 = .ok (.invokevirtual 111, 3) := by decide +kernel
theorem dX9_readsDeeds_74 : decode cX9_readsDeeds 74 = .ok (.istore_n 3, 1) := by decide +kernel
theorem dX9_readsDeeds_75 : decode cX9_readsDeeds 75 = .ok (.iload_n 3, 1) := by decide +kernel
theorem dX9_readsDeeds_76 : decode cX9_readsDeeds 76 = .ok (.bipush 114, 2) := by decide +kernel
theorem dX9_readsDeeds_78 : decode cX9_readsDeeds 78 = .ok (.if_icmp .eq 13, 3) := by decide +kernel
theorem dX9_readsDeeds_81 : decode cX9_readsDeeds 81 = .ok (.iload_n 3, 1) := by decide +kernel
theorem dX9_readsDeeds_82 : decode cX9_readsDeeds 82 = .ok (.bipush 100, 2) := by decide +kernel
theorem dX9_readsDeeds_84 : decode cX9_readsDeeds 84 = .ok (.if_icmp .eq 7, 3) := by decide +kernel
theorem dX9_readsDeeds_87 : decode cX9_readsDeeds 87 = .ok (.iload_n 2, 1) := by decide +kernel
theorem dX9_readsDeeds_88 : decode cX9_readsDeeds 88 = .ok (.iconst 2, 1) := by decide +kernel
theorem dX9_readsDeeds_89 : decode cX9_readsDeeds 89 = .ok (.iadd, 1) := by decide +kernel
theorem dX9_readsDeeds_90 : decode cX9_readsDeeds 90 = .ok (.ireturn, 1) := by decide +kernel
theorem dX9_readsDeeds_91 : decode cX9_readsDeeds 91 = .ok (.aload_n 0, 1) := by decide +kernel
theorem dX9_readsDeeds_92 : decode cX9_readsDeeds 92 = .ok (.iconst 0, 1) := by decide +kernel
theorem dX9_readsDeeds_93 : decode cX9_readsDeeds 93 = .ok (.iload_n 2, 1) := by decide +kernel
theorem dX9_readsDeeds_94 : decode cX9_readsDeeds 94 = .ok (.iconst 3, 1) := by decide +kernel
theorem dX9_readsDeeds_95 : decode cX9_readsDeeds 95 = .ok (.iadd, 1) := by decide +kernel
theorem dX9_readsDeeds_96 : decode cX9_readsDeeds 96 = .ok (.invokevirtual 111, 3) := by decide +kernel
theorem dX9_readsDeeds_99 : decode cX9_readsDeeds 99 = .ok (.bipush 49, 2) := by decide +kernel
theorem dX9_readsDeeds_101 : decode cX9_readsDeeds 101 = .ok (.bipush 57, 2) := by decide +kernel
theorem dX9_readsDeeds_103 : decode cX9_readsDeeds 103 = .ok (.invokestatic 103, 3) := by decide +kernel
theorem dX9_readsDeeds_106 : decode cX9_readsDeeds 106 = .ok (.ifCond .ne 7, 3) := by decide +kernel
theorem dX9_readsDeeds_109 : decode cX9_readsDeeds 109 = .ok (.iload_n 2, 1) := by decide +kernel
theorem dX9_readsDeeds_110 : decode cX9_readsDeeds 110 = .ok (.iconst 3, 1) := by decide +kernel
theorem dX9_readsDeeds_111 : decode cX9_readsDeeds 111 = .ok (.iadd, 1) := by decide +kernel
theorem dX9_readsDeeds_112 : decode cX9_readsDeeds 112 = .ok (.ireturn, 1) := by decide +kernel
theorem dX9_readsDeeds_113 : decode cX9_readsDeeds 113 = .ok (.aload_n 0, 1) := by decide +kernel
theorem dX9_readsDeeds_114 : decode cX9_readsDeeds 114 = .ok (.getfield 16, 3) := by decide +kernel
theorem dX9_readsDeeds_117 : decode cX9_readsDeeds 117 = .ok (.iload_n 1, 1) := by decide +kernel
theorem dX9_readsDeeds_118 : decode cX9_readsDeeds 118 = .ok (.aload_n 0, 1) := by decide +kernel
theorem dX9_readsDeeds_119 : decode cX9_readsDeeds 119 = .ok (.iconst 0, 1) := by decide +kernel
theorem dX9_readsDeeds_120 : decode cX9_readsDeeds 120 = .ok (.iload_n 2, 1) := by decide +kernel
theorem dX9_readsDeeds_121 : decode cX9_readsDeeds 121 = .ok (.invokevirtual 111, 3) := by decide +kernel
theorem dX9_readsDeeds_124 : decode cX9_readsDeeds 124 = .ok (.invokestatic 115, 3) := by decide +kernel
theorem dX9_readsDeeds_127 : decode cX9_readsDeeds 127 = .ok (.iastore, 1) := by decide +kernel
theorem dX9_readsDeeds_128 : decode cX9_readsDeeds 128 = .ok (.aload_n 0, 1) := by decide +kernel
theorem dX9_readsDeeds_129 : decode cX9_readsDeeds 129 = .ok (.getfield 19, 3) := by decide +kernel
theorem dX9_readsDeeds_132 : decode cX9_readsDeeds 132 = .ok (.iload_n 1, 1) := by decide +kernel
theorem dX9_readsDeeds_133 : decode cX9_readsDeeds 133 = .ok (.aload_n 0, 1) := by decide +kernel
theorem dX9_readsDeeds_134 : decode cX9_readsDeeds 134 = .ok (.iconst 0, 1) := by decide +kernel
theorem dX9_readsDeeds_135 : decode cX9_readsDeeds 135 = .ok (.iload_n 2, 1) := by decide +kernel
theorem dX9_readsDeeds_136 : decode cX9_readsDeeds 136 = .ok (.iconst 1, 1) := by decide +kernel
theorem dX9_readsDeeds_137 : decode cX9_readsDeeds 137 = .ok (.iadd, 1) := by decide +kernel
theorem dX9_readsDeeds_138 : decode cX9_readsDeeds 138 = .ok (.invokevirtual 111, 3) := by decide +kernel
theorem dX9_readsDeeds_141 : decode cX9_readsDeeds 141 = .ok (.bipush 48, 2) := by decide +kernel
theorem dX9_readsDeeds_143 : decode cX9_readsDeeds 143 = .ok (.isub, 1) := by decide +kernel
theorem dX9_readsDeeds_144 : decode cX9_readsDeeds 144 = .ok (.iastore, 1) := by decide +kernel
theorem dX9_readsDeeds_145 : decode cX9_readsDeeds 145 = .ok (.aload_n 0, 1) := by decide +kernel
theorem dX9_readsDeeds_146 : decode cX9_readsDeeds 146 = .ok (.getfield 22, 3) := by decide +kernel
theorem dX9_readsDeeds_149 : decode cX9_readsDeeds 149 = .ok (.iload_n 1, 1) := by decide +kernel
theorem dX9_readsDeeds_150 : decode cX9_readsDeeds 150 = .ok (.iload_n 3, 1) := by decide +kernel
theorem dX9_readsDeeds_151 : decode cX9_readsDeeds 151 = .ok (.bipush 114, 2) := by decide +kernel
theorem dX9_readsDeeds_153 : decode cX9_readsDeeds 153 = .ok (.if_icmp .ne 7, 3) := by decide +kernel
theorem dX9_readsDeeds_156 : decode cX9_readsDeeds 156 = .ok (.iconst 1, 1) := by decide +kernel
theorem dX9_readsDeeds_157 : decode cX9_readsDeeds 157 = .ok (.goto 4, 3) := by decide +kernel
theorem dX9_readsDeeds_160 : decode cX9_readsDeeds 160 = .ok (.iconst 0, 1) := by decide +kernel
theorem dX9_readsDeeds_161 : decode cX9_readsDeeds 161 = .ok (.iastore, 1) := by decide +kernel
theorem dX9_readsDeeds_162 : decode cX9_readsDeeds 162 = .ok (.aload_n 0, 1) := by decide +kernel
theorem dX9_readsDeeds_163 : decode cX9_readsDeeds 163 = .ok (.getfield 25, 3) := by decide +kernel
theorem dX9_readsDeeds_166 : decode cX9_readsDeeds 166 = .ok (.iload_n 1, 1) := by decide +kernel
theorem dX9_readsDeeds_167 : decode cX9_readsDeeds 167 = .ok (.aload_n 0, 1) := by decide +kernel
theorem dX9_readsDeeds_168 : decode cX9_readsDeeds 168 = .ok (.iconst 0, 1) := by decide +kernel
theorem dX9_readsDeeds_169 : decode cX9_readsDeeds 169 = .ok (.iload_n 2, 1) := by decide +kernel
theorem dX9_readsDeeds_170 : decode cX9_readsDeeds 170 = .ok (.iconst 3, 1) := by decide +kernel
theorem dX9_readsDeeds_171 : decode cX9_readsDeeds 171 = .ok (.iadd, 1) := by decide +kernel
theorem dX9_readsDeeds_172 : decode cX9_readsDeeds 172 = .ok (.invokevirtual 111, 3) := by decide +kernel
theorem dX9_readsDeeds_175 : decode cX9_readsDeeds 175 = .ok (.bipush 48, 2) := by decide +kernel
theorem dX9_readsDeeds_177 : decode cX9_readsDeeds 177 = .ok (.isub, 1) := by decide +kernel
theorem dX9_readsDeeds_178 : decode cX9_readsDeeds 178 = .ok (.iastore, 1) := by decide +kernel
theorem dX9_readsDeeds_179 : decode cX9_readsDeeds 179 = .ok (.aload_n 0, 1) := by decide +kernel
theorem dX9_readsDeeds_180 : decode cX9_readsDeeds 180 = .ok (.getfield 28, 3) := by decide +kernel
theorem dX9_readsDeeds_183 : decode cX9_readsDeeds 183 = .ok (.iload_n 1, 1) := by decide +kernel
theorem dX9_readsDeeds_184 : decode cX9_readsDeeds 184 = .ok (.iconst 0, 1) := by decide +kernel
theorem dX9_readsDeeds_185 : decode cX9_readsDeeds 185 = .ok (.iastore, 1) := by decide +kernel
theorem dX9_readsDeeds_186 : decode cX9_readsDeeds 186 = .ok (.iinc 2 4, 3) := by decide +kernel
theorem dX9_readsDeeds_189 : decode cX9_readsDeeds 189 = .ok (.aload_n 0, 1) := by decide +kernel
theorem dX9_readsDeeds_190 : decode cX9_readsDeeds 190 = .ok (.iconst 0, 1) := by decide +kernel
theorem dX9_readsDeeds_191 : decode cX9_readsDeeds 191 = .ok (.iload_n 2, 1) := by decide +kernel
theorem dX9_readsDeeds_192 : decode cX9_readsDeeds 192 = .ok (.invokevirtual 111, 3) := by decide +kernel
theorem dX9_readsDeeds_195 : decode cX9_readsDeeds 195 = .ok (.bipush 65, 2) := by decide +kernel
theorem dX9_readsDeeds_197 : decode cX9_readsDeeds 197 = .ok (.bipush 72, 2) := by decide +kernel
theorem dX9_readsDeeds_199 : decode cX9_readsDeeds 199 = .ok (.invokestatic 103, 3) := by decide +kernel
theorem dX9_readsDeeds_202 : decode cX9_readsDeeds 202 = .ok (.ifCond .eq 49, 3) := by decide +kernel
theorem dX9_readsDeeds_205 : decode cX9_readsDeeds 205 = .ok (.aload_n 0, 1) := by decide +kernel
theorem dX9_readsDeeds_206 : decode cX9_readsDeeds 206 = .ok (.iconst 0, 1) := by decide +kernel
theorem dX9_readsDeeds_207 : decode cX9_readsDeeds 207 = .ok (.iload_n 2, 1) := by decide +kernel
theorem dX9_readsDeeds_208 : decode cX9_readsDeeds 208 = .ok (.invokevirtual 111, 3) := by decide +kernel
theorem dX9_readsDeeds_211 : decode cX9_readsDeeds 211 = .ok (.bipush 65, 2) := by decide +kernel
theorem dX9_readsDeeds_213 : decode cX9_readsDeeds 213 = .ok (.isub, 1) := by decide +kernel
theorem dX9_readsDeeds_214 : decode cX9_readsDeeds 214 = .ok (.istore 4, 2) := by decide +kernel
theorem dX9_readsDeeds_216 : decode cX9_readsDeeds 216 = .ok (.aload_n 0, 1) := by decide +kernel
theorem dX9_readsDeeds_217 : decode cX9_readsDeeds 217 = .ok (.getfield 28, 3) := by decide +kernel
theorem dX9_readsDeeds_220 : decode cX9_readsDeeds 220 = .ok (.iload_n 1, 1) := by decide +kernel
theorem dX9_readsDeeds_221 : decode cX9_readsDeeds 221 = .ok (.iaload, 1) := by decide +kernel
theorem dX9_readsDeeds_222 : decode cX9_readsDeeds 222 = .ok (.iload 4, 2) := by decide +kernel
theorem dX9_readsDeeds_224 : decode cX9_readsDeeds 224 = .ok (.invokestatic 119, 3) := by decide +kernel
theorem dX9_readsDeeds_227 : decode cX9_readsDeeds 227 = .ok (.ifCond .eq 5, 3) := by decide +kernel
theorem dX9_readsDeeds_230 : decode cX9_readsDeeds 230 = .ok (.iload_n 2, 1) := by decide +kernel
theorem dX9_readsDeeds_231 : decode cX9_readsDeeds 231 = .ok (.ireturn, 1) := by decide +kernel
theorem dX9_readsDeeds_232 : decode cX9_readsDeeds 232 = .ok (.aload_n 0, 1) := by decide +kernel
theorem dX9_readsDeeds_233 : decode cX9_readsDeeds 233 = .ok (.getfield 28, 3) := by decide +kernel
theorem dX9_readsDeeds_236 : decode cX9_readsDeeds 236 = .ok (.iload_n 1, 1) := by decide +kernel
theorem dX9_readsDeeds_237 : decode cX9_readsDeeds 237 = .ok (.dup2, 1) := by decide +kernel
theorem dX9_readsDeeds_238 : decode cX9_readsDeeds 238 = .ok (.iaload, 1) := by decide +kernel
theorem dX9_readsDeeds_239 : decode cX9_readsDeeds 239 = .ok (.iconst 1, 1) := by decide +kernel
theorem dX9_readsDeeds_240 : decode cX9_readsDeeds 240 = .ok (.iload 4, 2) := by decide +kernel
theorem dX9_readsDeeds_242 : decode cX9_readsDeeds 242 = .ok (.ishl, 1) := by decide +kernel
theorem dX9_readsDeeds_243 : decode cX9_readsDeeds 243 = .ok (.ior, 1) := by decide +kernel
theorem dX9_readsDeeds_244 : decode cX9_readsDeeds 244 = .ok (.iastore, 1) := by decide +kernel
theorem dX9_readsDeeds_245 : decode cX9_readsDeeds 245 = .ok (.iinc 2 1, 3) := by decide +kernel
theorem dX9_readsDeeds_248 : decode cX9_readsDeeds 248 = .ok (.goto (-59), 3) := by decide +kernel
theorem dX9_readsDeeds_251 : decode cX9_readsDeeds 251 = .ok (.aload_n 0, 1) := by decide +kernel
theorem dX9_readsDeeds_252 : decode cX9_readsDeeds 252 = .ok (.getfield 28, 3) := by decide +kernel
theorem dX9_readsDeeds_255 : decode cX9_readsDeeds 255 = .ok (.iload_n 1, 1) := by decide +kernel
theorem dX9_readsDeeds_256 : decode cX9_readsDeeds 256 = .ok (.iaload, 1) := by decide +kernel
theorem dX9_readsDeeds_257 : decode cX9_readsDeeds 257 = .ok (.ifCond .ne 5, 3) := by decide +kernel
theorem dX9_readsDeeds_260 : decode cX9_readsDeeds 260 = .ok (.iload_n 2, 1) := by decide +kernel
theorem dX9_readsDeeds_261 : decode cX9_readsDeeds 261 = .ok (.ireturn, 1) := by decide +kernel
theorem dX9_readsDeeds_262 : decode cX9_readsDeeds 262 = .ok (.iinc 1 1, 3) := by decide +kernel
theorem dX9_readsDeeds_265 : decode cX9_readsDeeds 265 = .ok (.iload_n 2, 1) := by decide +kernel
theorem dX9_readsDeeds_266 : decode cX9_readsDeeds 266 = .ok (.aload_n 0, 1) := by decide +kernel
theorem dX9_readsDeeds_267 : decode cX9_readsDeeds 267 = .ok (.getfield 7, 3) := by decide +kernel
theorem dX9_readsDeeds_270 : decode cX9_readsDeeds 270 = .ok (.iconst 0, 1) := by decide +kernel
theorem dX9_readsDeeds_271 : decode cX9_readsDeeds 271 = .ok (.iaload, 1) := by decide +kernel
theorem dX9_readsDeeds_272 : decode cX9_readsDeeds 272 = .ok (.if_icmp .ne 10, 3) := by decide +kernel
theorem dX9_readsDeeds_275 : decode cX9_readsDeeds 275 = .ok (.aload_n 0, 1) := by decide +kernel
theorem dX9_readsDeeds_276 : decode cX9_readsDeeds 276 = .ok (.iload_n 1, 1) := by decide +kernel
theorem dX9_readsDeeds_277 : decode cX9_readsDeeds 277 = .ok (.putfield 107, 3) := by decide +kernel
theorem dX9_readsDeeds_280 : decode cX9_readsDeeds 280 = .ok (.iconst (-1), 1) := by decide +kernel
theorem dX9_readsDeeds_281 : decode cX9_readsDeeds 281 = .ok (.ireturn, 1) := by decide +kernel
theorem dX9_readsDeeds_282 : decode cX9_readsDeeds 282 = .ok (.aload_n 0, 1) := by decide +kernel
theorem dX9_readsDeeds_283 : decode cX9_readsDeeds 283 = .ok (.iconst 0, 1) := by decide +kernel
theorem dX9_readsDeeds_284 : decode cX9_readsDeeds 284 = .ok (.iload_n 2, 1) := by decide +kernel
theorem dX9_readsDeeds_285 : decode cX9_readsDeeds 285 = .ok (.invokevirtual 111, 3) := by decide +kernel
theorem dX9_readsDeeds_288 : decode cX9_readsDeeds 288 = .ok (.bipush 59, 2) := by decide +kernel
theorem dX9_readsDeeds_290 : decode cX9_readsDeeds 290 = .ok (.if_icmp .eq 5, 3) := by decide +kernel
theorem dX9_readsDeeds_293 : decode cX9_readsDeeds 293 = .ok (.iload_n 2, 1) := by decide +kernel
theorem dX9_readsDeeds_294 : decode cX9_readsDeeds 294 = .ok (.ireturn, 1) := by decide +kernel
theorem dX9_readsDeeds_295 : decode cX9_readsDeeds 295 = .ok (.iinc 2 1, 3) := by decide +kernel
theorem dX9_readsDeeds_298 : decode cX9_readsDeeds 298 = .ok (.goto (-289), 3) := by decide +kernel
theorem dX9_readsDeeds_301 : decode cX9_readsDeeds 301 = .ok (.iconst (-1), 1) := by decide +kernel
theorem dX9_readsDeeds_302 : decode cX9_readsDeeds 302 = .ok (.ireturn, 1) := by decide +kernel
theorem dX9_noRules_0 : decode cX9_noRules 0 = .ok (.aload_n 0, 1) := by decide +kernel
theorem dX9_noRules_1 : decode cX9_noRules 1 = .ok (.iconst 0, 1) := by decide +kernel
theorem dX9_noRules_2 : decode cX9_noRules 2 = .ok (.putfield 123, 3) := by decide +kernel
theorem dX9_noRules_5 : decode cX9_noRules 5 = .ok (.iconst 0, 1) := by decide +kernel
theorem dX9_noRules_6 : decode cX9_noRules 6 = .ok (.istore_n 1, 1) := by decide +kernel
theorem dX9_noRules_7 : decode cX9_noRules 7 = .ok (.iload_n 1, 1) := by decide +kernel
theorem dX9_noRules_8 : decode cX9_noRules 8 = .ok (.iconst 4, 1) := by decide +kernel
theorem dX9_noRules_9 : decode cX9_noRules 9 = .ok (.if_icmp .ge 30, 3) := by decide +kernel
theorem dX9_noRules_12 : decode cX9_noRules 12 = .ok (.aload_n 0, 1) := by decide +kernel
theorem dX9_noRules_13 : decode cX9_noRules 13 = .ok (.getfield 31, 3) := by decide +kernel
theorem dX9_noRules_16 : decode cX9_noRules 16 = .ok (.iload_n 1, 1) := by decide +kernel
theorem dX9_noRules_17 : decode cX9_noRules 17 = .ok (.iconst 0, 1) := by decide +kernel
theorem dX9_noRules_18 : decode cX9_noRules 18 = .ok (.iastore, 1) := by decide +kernel
theorem dX9_noRules_19 : decode cX9_noRules 19 = .ok (.aload_n 0, 1) := by decide +kernel
theorem dX9_noRules_20 : decode cX9_noRules 20 = .ok (.getfield 34, 3) := by decide +kernel
theorem dX9_noRules_23 : decode cX9_noRules 23 = .ok (.iload_n 1, 1) := by decide +kernel
theorem dX9_noRules_24 : decode cX9_noRules 24 = .ok (.iconst 0, 1) := by decide +kernel
theorem dX9_noRules_25 : decode cX9_noRules 25 = .ok (.iastore, 1) := by decide +kernel
theorem dX9_noRules_26 : decode cX9_noRules 26 = .ok (.aload_n 0, 1) := by decide +kernel
theorem dX9_noRules_27 : decode cX9_noRules 27 = .ok (.getfield 37, 3) := by decide +kernel
theorem dX9_noRules_30 : decode cX9_noRules 30 = .ok (.iload_n 1, 1) := by decide +kernel
theorem dX9_noRules_31 : decode cX9_noRules 31 = .ok (.iconst 0, 1) := by decide +kernel
theorem dX9_noRules_32 : decode cX9_noRules 32 = .ok (.iastore, 1) := by decide +kernel
theorem dX9_noRules_33 : decode cX9_noRules 33 = .ok (.iinc 1 1, 3) := by decide +kernel
theorem dX9_noRules_36 : decode cX9_noRules 36 = .ok (.goto (-29), 3) := by decide +kernel
theorem dX9_noRules_39 : decode cX9_noRules 39 = .ok (.return_, 1) := by decide +kernel
theorem dX9_readsRules_0 : decode cX9_readsRules 0 = .ok (.aload_n 0, 1) := by decide +kernel
theorem dX9_readsRules_1 : decode cX9_readsRules 1 = .ok (.invokevirtual 126, 3) := by decide +kernel
theorem dX9_readsRules_4 : decode cX9_readsRules 4 = .ok (.iconst 0, 1) := by decide +kernel
theorem dX9_readsRules_5 : decode cX9_readsRules 5 = .ok (.istore_n 1, 1) := by decide +kernel
theorem dX9_readsRules_6 : decode cX9_readsRules 6 = .ok (.iload_n 1, 1) := by decide +kernel
theorem dX9_readsRules_7 : decode cX9_readsRules 7 = .ok (.aload_n 0, 1) := by decide +kernel
theorem dX9_readsRules_8 : decode cX9_readsRules 8 = .ok (.getfield 7, 3) := by decide +kernel
theorem dX9_readsRules_11 : decode cX9_readsRules 11 = .ok (.iconst 1, 1) := by decide +kernel
theorem dX9_readsRules_12 : decode cX9_readsRules 12 = .ok (.iaload, 1) := by decide +kernel
theorem dX9_readsRules_13 : decode cX9_readsRules 13 = .ok (.if_icmp .lt 7, 3) := by decide +kernel
theorem dX9_readsRules_16 : decode cX9_readsRules 16 = .ok (.iload_n 1, 1) := by decide +kernel
theorem dX9_readsRules_17 : decode cX9_readsRules 17 = .ok (.ifCond .le 165, 3) := by decide +kernel
theorem dX9_readsRules_20 : decode cX9_readsRules 20 = .ok (.aload_n 0, 1) := by decide +kernel
theorem dX9_readsRules_21 : decode cX9_readsRules 21 = .ok (.iconst 1, 1) := by decide +kernel
theorem dX9_readsRules_22 : decode cX9_readsRules 22 = .ok (.iload_n 1, 1) := by decide +kernel
theorem dX9_readsRules_23 : decode cX9_readsRules 23 = .ok (.invokevirtual 111, 3) := by decide +kernel
theorem dX9_readsRules_26 : decode cX9_readsRules 26 = .ok (.invokestatic 115, 3) := by decide +kernel
theorem dX9_readsRules_29 : decode cX9_readsRules 29 = .ok (.istore_n 2, 1) := by decide +kernel
theorem dX9_readsRules_30 : decode cX9_readsRules 30 = .ok (.iload_n 2, 1) := by decide +kernel
theorem dX9_readsRules_31 : decode cX9_readsRules 31 = .ok (.iconst (-1), 1) := by decide +kernel
theorem dX9_readsRules_32 : decode cX9_readsRules 32 = .ok (.if_icmp .ne 5, 3) := by decide +kernel
theorem dX9_readsRules_35 : decode cX9_readsRules 35 = .ok (.iload_n 1, 1) := by decide +kernel
theorem dX9_readsRules_36 : decode cX9_readsRules 36 = .ok (.ireturn, 1) := by decide +kernel
theorem dX9_readsRules_37 : decode cX9_readsRules 37 = .ok (.aload_n 0, 1) := by decide +kernel
theorem dX9_readsRules_38 : decode cX9_readsRules 38 = .ok (.iconst 1, 1) := by decide +kernel
theorem dX9_readsRules_39 : decode cX9_readsRules 39 = .ok (.iload_n 1, 1) := by decide +kernel
theorem dX9_readsRules_40 : decode cX9_readsRules 40 = .ok (.iconst 1, 1) := by decide +kernel
theorem dX9_readsRules_41 : decode cX9_readsRules 41 = .ok (.iadd, 1) := by decide +kernel
theorem dX9_readsRules_42 : decode cX9_readsRules 42 = .ok (.invokevirtual 111, 3) := by decide +kernel
theorem dX9_readsRules_45 : decode cX9_readsRules 45 = .ok (.bipush 48, 2) := by decide +kernel
theorem dX9_readsRules_47 : decode cX9_readsRules 47 = .ok (.bipush 52, 2) := by decide +kernel
theorem dX9_readsRules_49 : decode cX9_readsRules 49 = .ok (.invokestatic 103, 3) := by decide +kernel
theorem dX9_readsRules_52 : decode cX9_readsRules 52 = .ok (.ifCond .ne 7, 3) := by decide +kernel
theorem dX9_readsRules_55 : decode cX9_readsRules 55 = .ok (.iload_n 1, 1) := by decide +kernel
theorem dX9_readsRules_56 : decode cX9_readsRules 56 = .ok (.iconst 1, 1) := by decide +kernel
theorem dX9_readsRules_57 : decode cX9_readsRules 57 = .ok (.iadd, 1) := by decide +kernel
theorem dX9_readsRules_58 : decode cX9_readsRules 58 = .ok (.ireturn, 1) := by decide +kernel
theorem dX9_readsRules_59 : decode cX9_readsRules 59 = .ok (.aload_n 0, 1) := by decide +kernel
theorem dX9_readsRules_60 : decode cX9_readsRules 60 = .ok (.getfield 31, 3) := by decide +kernel
theorem dX9_readsRules_63 : decode cX9_readsRules 63 = .ok (.iload_n 2, 1) := by decide +kernel
theorem dX9_readsRules_64 : decode cX9_readsRules 64 = .ok (.aload_n 0, 1) := by decide +kernel
theorem dX9_readsRules_65 : decode cX9_readsRules 65 = .ok (.iconst 1, 1) := by decide +kernel
theorem dX9_readsRules_66 : decode cX9_readsRules 66 = .ok (.iload_n 1, 1) := by decide +kernel
theorem dX9_readsRules_67 : decode cX9_readsRules 67 = .ok (.iconst 1, 1) := by decide +kernel
theorem dX9_readsRules_68 : decode cX9_readsRules 68 = .ok (.iadd, 1) := by decide +kernel
theorem dX9_readsRules_69 : decode cX9_readsRules 69 = .ok (.invokevirtual 111, 3) := by decide +kernel
theorem dX9_readsRules_72 : decode cX9_readsRules 72 = .ok (.bipush 48, 2) := by decide +kernel
theorem dX9_readsRules_74 : decode cX9_readsRules 74 = .ok (.isub, 1) := by decide +kernel
theorem dX9_readsRules_75 : decode cX9_readsRules 75 = .ok (.iastore, 1) := by decide +kernel
theorem dX9_readsRules_76 : decode cX9_readsRules 76 = .ok (.iinc 1 2, 3) := by decide +kernel
theorem dX9_readsRules_79 : decode cX9_readsRules 79 = .ok (.aload_n 0, 1) := by decide +kernel
theorem dX9_readsRules_80 : decode cX9_readsRules 80 = .ok (.getfield 34, 3) := by decide +kernel
theorem dX9_readsRules_83 : decode cX9_readsRules 83 = .ok (.iload_n 2, 1) := by decide +kernel
theorem dX9_readsRules_84 : decode cX9_readsRules 84 = .ok (.aload_n 0, 1) := by decide +kernel
theorem dX9_readsRules_85 : decode cX9_readsRules 85 = .ok (.iconst 1, 1) := by decide +kernel
theorem dX9_readsRules_86 : decode cX9_readsRules 86 = .ok (.iload_n 1, 1) := by decide +kernel
theorem dX9_readsRules_87 : decode cX9_readsRules 87 = .ok (.invokevirtual 111, 3) := by decide +kernel
theorem dX9_readsRules_90 : decode cX9_readsRules 90 = .ok (.bipush 119, 2) := by decide +kernel
theorem dX9_readsRules_92 : decode cX9_readsRules 92 = .ok (.if_icmp .ne 7, 3) := by decide +kernel
theorem dX9_readsRules_95 : decode cX9_readsRules 95 = .ok (.iconst 1, 1) := by decide +kernel
theorem dX9_readsRules_96 : decode cX9_readsRules 96 = .ok (.goto 4, 3) := by decide +kernel
theorem dX9_readsRules_99 : decode cX9_readsRules 99 = .ok (.iconst 0, 1) := by decide +kernel
theorem dX9_readsRules_100 : decode cX9_readsRules 100 = .ok (.iastore, 1) := by decide +kernel
theorem dX9_readsRules_101 : decode cX9_readsRules 101 = .ok (.iload_n 1, 1) := by decide +kernel
theorem dX9_readsRules_102 : decode cX9_readsRules 102 = .ok (.aload_n 0, 1) := by decide +kernel
theorem dX9_readsRules_103 : decode cX9_readsRules 103 = .ok (.getfield 34, 3) := by decide +kernel
theorem dX9_readsRules_106 : decode cX9_readsRules 106 = .ok (.iload_n 2, 1) := by decide +kernel
theorem dX9_readsRules_107 : decode cX9_readsRules 107 = .ok (.iaload, 1) := by decide +kernel
theorem dX9_readsRules_108 : decode cX9_readsRules 108 = .ok (.iadd, 1) := by decide +kernel
theorem dX9_readsRules_109 : decode cX9_readsRules 109 = .ok (.istore_n 1, 1) := by decide +kernel
theorem dX9_readsRules_110 : decode cX9_readsRules 110 = .ok (.aload_n 0, 1) := by decide +kernel
theorem dX9_readsRules_111 : decode cX9_readsRules 111 = .ok (.getfield 37, 3) := by decide +kernel
theorem dX9_readsRules_114 : decode cX9_readsRules 114 = .ok (.iload_n 2, 1) := by decide +kernel
theorem dX9_readsRules_115 : decode cX9_readsRules 115 = .ok (.aload_n 0, 1) := by decide +kernel
theorem dX9_readsRules_116 : decode cX9_readsRules 116 = .ok (.iconst 1, 1) := by decide +kernel
theorem dX9_readsRules_117 : decode cX9_readsRules 117 = .ok (.iload_n 1, 1) := by decide +kernel
theorem dX9_readsRules_118 : decode cX9_readsRules 118 = .ok (.invokevirtual 111, 3) := by decide +kernel
theorem dX9_readsRules_121 : decode cX9_readsRules 121 = .ok (.bipush 104, 2) := by decide +kernel
theorem dX9_readsRules_123 : decode cX9_readsRules 123 = .ok (.if_icmp .ne 7, 3) := by decide +kernel
theorem dX9_readsRules_126 : decode cX9_readsRules 126 = .ok (.iconst 1, 1) := by decide +kernel
theorem dX9_readsRules_127 : decode cX9_readsRules 127 = .ok (.goto 4, 3) := by decide +kernel
theorem dX9_readsRules_130 : decode cX9_readsRules 130 = .ok (.iconst 0, 1) := by decide +kernel
theorem dX9_readsRules_131 : decode cX9_readsRules 131 = .ok (.iastore, 1) := by decide +kernel
theorem dX9_readsRules_132 : decode cX9_readsRules 132 = .ok (.iload_n 1, 1) := by decide +kernel
theorem dX9_readsRules_133 : decode cX9_readsRules 133 = .ok (.aload_n 0, 1) := by decide +kernel
theorem dX9_readsRules_134 : decode cX9_readsRules 134 = .ok (.getfield 37, 3) := by decide +kernel
theorem dX9_readsRules_137 : decode cX9_readsRules 137 = .ok (.iload_n 2, 1) := by decide +kernel
theorem dX9_readsRules_138 : decode cX9_readsRules 138 = .ok (.iaload, 1) := by decide +kernel
theorem dX9_readsRules_139 : decode cX9_readsRules 139 = .ok (.iadd, 1) := by decide +kernel
theorem dX9_readsRules_140 : decode cX9_readsRules 140 = .ok (.istore_n 1, 1) := by decide +kernel
theorem dX9_readsRules_141 : decode cX9_readsRules 141 = .ok (.aload_n 0, 1) := by decide +kernel
theorem dX9_readsRules_142 : decode cX9_readsRules 142 = .ok (.dup, 1) := by decide +kernel
theorem dX9_readsRules_143 : decode cX9_readsRules 143 = .ok (.getfield 123, 3) := by decide +kernel
theorem dX9_readsRules_146 : decode cX9_readsRules 146 = .ok (.iconst 1, 1) := by decide +kernel
theorem dX9_readsRules_147 : decode cX9_readsRules 147 = .ok (.iadd, 1) := by decide +kernel
theorem dX9_readsRules_148 : decode cX9_readsRules 148 = .ok (.putfield 123, 3) := by decide +kernel
theorem dX9_readsRules_151 : decode cX9_readsRules 151 = .ok (.iload_n 1, 1) := by decide +kernel
theorem dX9_readsRules_152 : decode cX9_readsRules 152 = .ok (.aload_n 0, 1) := by decide +kernel
theorem dX9_readsRules_153 : decode cX9_readsRules 153 = .ok (.getfield 7, 3) := by decide +kernel
theorem dX9_readsRules_156 : decode cX9_readsRules 156 = .ok (.iconst 1, 1) := by decide +kernel
theorem dX9_readsRules_157 : decode cX9_readsRules 157 = .ok (.iaload, 1) := by decide +kernel
theorem dX9_readsRules_158 : decode cX9_readsRules 158 = .ok (.if_icmp .ne 5, 3) := by decide +kernel
theorem dX9_readsRules_161 : decode cX9_readsRules 161 = .ok (.iconst (-1), 1) := by decide +kernel
theorem dX9_readsRules_162 : decode cX9_readsRules 162 = .ok (.ireturn, 1) := by decide +kernel
theorem dX9_readsRules_163 : decode cX9_readsRules 163 = .ok (.aload_n 0, 1) := by decide +kernel
theorem dX9_readsRules_164 : decode cX9_readsRules 164 = .ok (.iconst 1, 1) := by decide +kernel
theorem dX9_readsRules_165 : decode cX9_readsRules 165 = .ok (.iload_n 1, 1) := by decide +kernel
theorem dX9_readsRules_166 : decode cX9_readsRules 166 = .ok (.invokevirtual 111, 3) := by decide +kernel
theorem dX9_readsRules_169 : decode cX9_readsRules 169 = .ok (.bipush 59, 2) := by decide +kernel
theorem dX9_readsRules_171 : decode cX9_readsRules 171 = .ok (.if_icmp .eq 5, 3) := by decide +kernel
theorem dX9_readsRules_174 : decode cX9_readsRules 174 = .ok (.iload_n 1, 1) := by decide +kernel
theorem dX9_readsRules_175 : decode cX9_readsRules 175 = .ok (.ireturn, 1) := by decide +kernel
theorem dX9_readsRules_176 : decode cX9_readsRules 176 = .ok (.iinc 1 1, 3) := by decide +kernel
theorem dX9_readsRules_179 : decode cX9_readsRules 179 = .ok (.goto (-173), 3) := by decide +kernel
theorem dX9_readsRules_182 : decode cX9_readsRules 182 = .ok (.iconst (-1), 1) := by decide +kernel
theorem dX9_readsRules_183 : decode cX9_readsRules 183 = .ok (.ireturn, 1) := by decide +kernel
theorem dX9_faultOf_0 : decode cX9_faultOf 0 = .ok (.iload_n 1, 1) := by decide +kernel
theorem dX9_faultOf_1 : decode cX9_faultOf 1 = .ok (.ifCond .ne 8, 3) := by decide +kernel
theorem dX9_faultOf_4 : decode cX9_faultOf 4 = .ok (.aload_n 0, 1) := by decide +kernel
theorem dX9_faultOf_5 : decode cX9_faultOf 5 = .ok (.invokevirtual 129, 3) := by decide +kernel
theorem dX9_faultOf_8 : decode cX9_faultOf 8 = .ok (.ireturn, 1) := by decide +kernel
theorem dX9_faultOf_9 : decode cX9_faultOf 9 = .ok (.aload_n 0, 1) := by decide +kernel
theorem dX9_faultOf_10 : decode cX9_faultOf 10 = .ok (.invokevirtual 133, 3) := by decide +kernel
theorem dX9_faultOf_13 : decode cX9_faultOf 13 = .ok (.istore_n 2, 1) := by decide +kernel
theorem dX9_faultOf_14 : decode cX9_faultOf 14 = .ok (.iload_n 2, 1) := by decide +kernel
theorem dX9_faultOf_15 : decode cX9_faultOf 15 = .ok (.iconst (-1), 1) := by decide +kernel
theorem dX9_faultOf_16 : decode cX9_faultOf 16 = .ok (.if_icmp .eq 7, 3) := by decide +kernel
theorem dX9_faultOf_19 : decode cX9_faultOf 19 = .ok (.aload_n 0, 1) := by decide +kernel
theorem dX9_faultOf_20 : decode cX9_faultOf 20 = .ok (.invokevirtual 126, 3) := by decide +kernel
theorem dX9_faultOf_23 : decode cX9_faultOf 23 = .ok (.iload_n 2, 1) := by decide +kernel
theorem dX9_faultOf_24 : decode cX9_faultOf 24 = .ok (.ireturn, 1) := by decide +kernel
theorem dX9_reads_0 : decode cX9_reads 0 = .ok (.aload_n 0, 1) := by decide +kernel
theorem dX9_reads_1 : decode cX9_reads 1 = .ok (.iconst 0, 1) := by decide +kernel
theorem dX9_reads_2 : decode cX9_reads 2 = .ok (.invokevirtual 136, 3) := by decide +kernel
theorem dX9_reads_5 : decode cX9_reads 5 = .ok (.istore_n 1, 1) := by decide +kernel
theorem dX9_reads_6 : decode cX9_reads 6 = .ok (.aload_n 0, 1) := by decide +kernel
theorem dX9_reads_7 : decode cX9_reads 7 = .ok (.iconst 1, 1) := by decide +kernel
theorem dX9_reads_8 : decode cX9_reads 8 = .ok (.invokevirtual 136, 3) := by decide +kernel
theorem dX9_reads_11 : decode cX9_reads 11 = .ok (.istore_n 1, 1) := by decide +kernel
theorem dX9_reads_12 : decode cX9_reads 12 = .ok (.return_, 1) := by decide +kernel
theorem dX9_fault_0 : decode cX9_fault 0 = .ok (.iload_n 1, 1) := by decide +kernel
theorem dX9_fault_1 : decode cX9_fault 1 = .ok (.iconst 0, 1) := by decide +kernel
theorem dX9_fault_2 : decode cX9_fault 2 = .ok (.iconst 1, 1) := by decide +kernel
theorem dX9_fault_3 : decode cX9_fault 3 = .ok (.invokestatic 103, 3) := by decide +kernel
theorem dX9_fault_6 : decode cX9_fault 6 = .ok (.ifCond .eq 11, 3) := by decide +kernel
theorem dX9_fault_9 : decode cX9_fault 9 = .ok (.aload_n 0, 1) := by decide +kernel
theorem dX9_fault_10 : decode cX9_fault 10 = .ok (.iload_n 1, 1) := by decide +kernel
theorem dX9_fault_11 : decode cX9_fault 11 = .ok (.invokevirtual 136, 3) := by decide +kernel
theorem dX9_fault_14 : decode cX9_fault 14 = .ok (.goto 5, 3) := by decide +kernel
theorem dX9_fault_17 : decode cX9_fault 17 = .ok (.bipush (-2), 2) := by decide +kernel
theorem dX9_fault_19 : decode cX9_fault 19 = .ok (.ireturn, 1) := by decide +kernel
theorem dX9_isDeed_0 : decode cX9_isDeed 0 = .ok (.aload_n 0, 1) := by decide +kernel
theorem dX9_isDeed_1 : decode cX9_isDeed 1 = .ok (.invokevirtual 139, 3) := by decide +kernel
theorem dX9_isDeed_4 : decode cX9_isDeed 4 = .ok (.iload_n 1, 1) := by decide +kernel
theorem dX9_isDeed_5 : decode cX9_isDeed 5 = .ok (.iconst 0, 1) := by decide +kernel
theorem dX9_isDeed_6 : decode cX9_isDeed 6 = .ok (.aload_n 0, 1) := by decide +kernel
theorem dX9_isDeed_7 : decode cX9_isDeed 7 = .ok (.getfield 107, 3) := by decide +kernel
theorem dX9_isDeed_10 : decode cX9_isDeed 10 = .ok (.iconst 1, 1) := by decide +kernel
theorem dX9_isDeed_11 : decode cX9_isDeed 11 = .ok (.isub, 1) := by decide +kernel
theorem dX9_isDeed_12 : decode cX9_isDeed 12 = .ok (.invokestatic 103, 3) := by decide +kernel
theorem dX9_isDeed_15 : decode cX9_isDeed 15 = .ok (.ireturn, 1) := by decide +kernel
theorem dX9_deedOf_0 : decode cX9_deedOf 0 = .ok (.iload_n 2, 1) := by decide +kernel
theorem dX9_deedOf_1 : decode cX9_deedOf 1 = .ok (.ifCond .ne 12, 3) := by decide +kernel
theorem dX9_deedOf_4 : decode cX9_deedOf 4 = .ok (.aload_n 0, 1) := by decide +kernel
theorem dX9_deedOf_5 : decode cX9_deedOf 5 = .ok (.getfield 16, 3) := by decide +kernel
theorem dX9_deedOf_8 : decode cX9_deedOf 8 = .ok (.iload_n 1, 1) := by decide +kernel
theorem dX9_deedOf_9 : decode cX9_deedOf 9 = .ok (.iaload, 1) := by decide +kernel
theorem dX9_deedOf_10 : decode cX9_deedOf 10 = .ok (.goto 51, 3) := by decide +kernel
theorem dX9_deedOf_13 : decode cX9_deedOf 13 = .ok (.iload_n 2, 1) := by decide +kernel
theorem dX9_deedOf_14 : decode cX9_deedOf 14 = .ok (.iconst 1, 1) := by decide +kernel
theorem dX9_deedOf_15 : decode cX9_deedOf 15 = .ok (.if_icmp .ne 12, 3) := by decide +kernel
theorem dX9_deedOf_18 : decode cX9_deedOf 18 = .ok (.aload_n 0, 1) := by decide +kernel
theorem dX9_deedOf_19 : decode cX9_deedOf 19 = .ok (.getfield 19, 3) := by decide +kernel
theorem dX9_deedOf_22 : decode cX9_deedOf 22 = .ok (.iload_n 1, 1) := by decide +kernel
theorem dX9_deedOf_23 : decode cX9_deedOf 23 = .ok (.iaload, 1) := by decide +kernel
theorem dX9_deedOf_24 : decode cX9_deedOf 24 = .ok (.goto 37, 3) := by decide +kernel
theorem dX9_deedOf_27 : decode cX9_deedOf 27 = .ok (.iload_n 2, 1) := by decide +kernel
theorem dX9_deedOf_28 : decode cX9_deedOf 28 = .ok (.iconst 2, 1) := by decide +kernel
theorem dX9_deedOf_29 : decode cX9_deedOf 29 = .ok (.if_icmp .ne 12, 3) := by decide +kernel
theorem dX9_deedOf_32 : decode cX9_deedOf 32 = .ok (.aload_n 0, 1) := by decide +kernel
theorem dX9_deedOf_33 : decode cX9_deedOf 33 = .ok (.getfield 22, 3) := by decide +kernel
theorem dX9_deedOf_36 : decode cX9_deedOf 36 = .ok (.iload_n 1, 1) := by decide +kernel
theorem dX9_deedOf_37 : decode cX9_deedOf 37 = .ok (.iaload, 1) := by decide +kernel
theorem dX9_deedOf_38 : decode cX9_deedOf 38 = .ok (.goto 23, 3) := by decide +kernel
theorem dX9_deedOf_41 : decode cX9_deedOf 41 = .ok (.iload_n 2, 1) := by decide +kernel
theorem dX9_deedOf_42 : decode cX9_deedOf 42 = .ok (.iconst 3, 1) := by decide +kernel
theorem dX9_deedOf_43 : decode cX9_deedOf 43 = .ok (.if_icmp .ne 12, 3) := by decide +kernel
theorem dX9_deedOf_46 : decode cX9_deedOf 46 = .ok (.aload_n 0, 1) := by decide +kernel
theorem dX9_deedOf_47 : decode cX9_deedOf 47 = .ok (.getfield 25, 3) := by decide +kernel
theorem dX9_deedOf_50 : decode cX9_deedOf 50 = .ok (.iload_n 1, 1) := by decide +kernel
theorem dX9_deedOf_51 : decode cX9_deedOf 51 = .ok (.iaload, 1) := by decide +kernel
theorem dX9_deedOf_52 : decode cX9_deedOf 52 = .ok (.goto 9, 3) := by decide +kernel
theorem dX9_deedOf_55 : decode cX9_deedOf 55 = .ok (.aload_n 0, 1) := by decide +kernel
theorem dX9_deedOf_56 : decode cX9_deedOf 56 = .ok (.getfield 28, 3) := by decide +kernel
theorem dX9_deedOf_59 : decode cX9_deedOf 59 = .ok (.iload_n 1, 1) := by decide +kernel
theorem dX9_deedOf_60 : decode cX9_deedOf 60 = .ok (.iaload, 1) := by decide +kernel
theorem dX9_deedOf_61 : decode cX9_deedOf 61 = .ok (.ireturn, 1) := by decide +kernel
theorem dX9_deed_0 : decode cX9_deed 0 = .ok (.aload_n 0, 1) := by decide +kernel
theorem dX9_deed_1 : decode cX9_deed 1 = .ok (.iload_n 1, 1) := by decide +kernel
theorem dX9_deed_2 : decode cX9_deed 2 = .ok (.invokevirtual 142, 3) := by decide +kernel
theorem dX9_deed_5 : decode cX9_deed 5 = .ok (.ifCond .eq 21, 3) := by decide +kernel
theorem dX9_deed_8 : decode cX9_deed 8 = .ok (.iload_n 2, 1) := by decide +kernel
theorem dX9_deed_9 : decode cX9_deed 9 = .ok (.iconst 0, 1) := by decide +kernel
theorem dX9_deed_10 : decode cX9_deed 10 = .ok (.iconst 4, 1) := by decide +kernel
theorem dX9_deed_11 : decode cX9_deed 11 = .ok (.invokestatic 103, 3) := by decide +kernel
theorem dX9_deed_14 : decode cX9_deed 14 = .ok (.ifCond .eq 12, 3) := by decide +kernel
theorem dX9_deed_17 : decode cX9_deed 17 = .ok (.aload_n 0, 1) := by decide +kernel
theorem dX9_deed_18 : decode cX9_deed 18 = .ok (.iload_n 1, 1) := by decide +kernel
theorem dX9_deed_19 : decode cX9_deed 19 = .ok (.iload_n 2, 1) := by decide +kernel
theorem dX9_deed_20 : decode cX9_deed 20 = .ok (.invokevirtual 146, 3) := by decide +kernel
theorem dX9_deed_23 : decode cX9_deed 23 = .ok (.goto 5, 3) := by decide +kernel
theorem dX9_deed_26 : decode cX9_deed 26 = .ok (.bipush (-2), 2) := by decide +kernel
theorem dX9_deed_28 : decode cX9_deed 28 = .ok (.ireturn, 1) := by decide +kernel
theorem dX9_ruleOf_0 : decode cX9_ruleOf 0 = .ok (.aload_n 0, 1) := by decide +kernel
theorem dX9_ruleOf_1 : decode cX9_ruleOf 1 = .ok (.invokevirtual 139, 3) := by decide +kernel
theorem dX9_ruleOf_4 : decode cX9_ruleOf 4 = .ok (.iload_n 2, 1) := by decide +kernel
theorem dX9_ruleOf_5 : decode cX9_ruleOf 5 = .ok (.ifCond .ne 12, 3) := by decide +kernel
theorem dX9_ruleOf_8 : decode cX9_ruleOf 8 = .ok (.aload_n 0, 1) := by decide +kernel
theorem dX9_ruleOf_9 : decode cX9_ruleOf 9 = .ok (.getfield 31, 3) := by decide +kernel
theorem dX9_ruleOf_12 : decode cX9_ruleOf 12 = .ok (.iload_n 1, 1) := by decide +kernel
theorem dX9_ruleOf_13 : decode cX9_ruleOf 13 = .ok (.iaload, 1) := by decide +kernel
theorem dX9_ruleOf_14 : decode cX9_ruleOf 14 = .ok (.goto 23, 3) := by decide +kernel
theorem dX9_ruleOf_17 : decode cX9_ruleOf 17 = .ok (.iload_n 2, 1) := by decide +kernel
theorem dX9_ruleOf_18 : decode cX9_ruleOf 18 = .ok (.iconst 1, 1) := by decide +kernel
theorem dX9_ruleOf_19 : decode cX9_ruleOf 19 = .ok (.if_icmp .ne 12, 3) := by decide +kernel
theorem dX9_ruleOf_22 : decode cX9_ruleOf 22 = .ok (.aload_n 0, 1) := by decide +kernel
theorem dX9_ruleOf_23 : decode cX9_ruleOf 23 = .ok (.getfield 34, 3) := by decide +kernel
theorem dX9_ruleOf_26 : decode cX9_ruleOf 26 = .ok (.iload_n 1, 1) := by decide +kernel
theorem dX9_ruleOf_27 : decode cX9_ruleOf 27 = .ok (.iaload, 1) := by decide +kernel
theorem dX9_ruleOf_28 : decode cX9_ruleOf 28 = .ok (.goto 9, 3) := by decide +kernel
theorem dX9_ruleOf_31 : decode cX9_ruleOf 31 = .ok (.aload_n 0, 1) := by decide +kernel
theorem dX9_ruleOf_32 : decode cX9_ruleOf 32 = .ok (.getfield 37, 3) := by decide +kernel
theorem dX9_ruleOf_35 : decode cX9_ruleOf 35 = .ok (.iload_n 1, 1) := by decide +kernel
theorem dX9_ruleOf_36 : decode cX9_ruleOf 36 = .ok (.iaload, 1) := by decide +kernel
theorem dX9_ruleOf_37 : decode cX9_ruleOf 37 = .ok (.ireturn, 1) := by decide +kernel
theorem dX9_rule_0 : decode cX9_rule 0 = .ok (.iload_n 1, 1) := by decide +kernel
theorem dX9_rule_1 : decode cX9_rule 1 = .ok (.iconst 0, 1) := by decide +kernel
theorem dX9_rule_2 : decode cX9_rule 2 = .ok (.iconst 3, 1) := by decide +kernel
theorem dX9_rule_3 : decode cX9_rule 3 = .ok (.invokestatic 103, 3) := by decide +kernel
theorem dX9_rule_6 : decode cX9_rule 6 = .ok (.ifCond .eq 21, 3) := by decide +kernel
theorem dX9_rule_9 : decode cX9_rule 9 = .ok (.iload_n 2, 1) := by decide +kernel
theorem dX9_rule_10 : decode cX9_rule 10 = .ok (.iconst 0, 1) := by decide +kernel
theorem dX9_rule_11 : decode cX9_rule 11 = .ok (.iconst 2, 1) := by decide +kernel
theorem dX9_rule_12 : decode cX9_rule 12 = .ok (.invokestatic 103, 3) := by decide +kernel
theorem dX9_rule_15 : decode cX9_rule 15 = .ok (.ifCond .eq 12, 3) := by decide +kernel
theorem dX9_rule_18 : decode cX9_rule 18 = .ok (.aload_n 0, 1) := by decide +kernel
theorem dX9_rule_19 : decode cX9_rule 19 = .ok (.iload_n 1, 1) := by decide +kernel
theorem dX9_rule_20 : decode cX9_rule 20 = .ok (.iload_n 2, 1) := by decide +kernel
theorem dX9_rule_21 : decode cX9_rule 21 = .ok (.invokevirtual 149, 3) := by decide +kernel
theorem dX9_rule_24 : decode cX9_rule 24 = .ok (.goto 5, 3) := by decide +kernel
theorem dX9_rule_27 : decode cX9_rule 27 = .ok (.bipush (-2), 2) := by decide +kernel
theorem dX9_rule_29 : decode cX9_rule 29 = .ok (.ireturn, 1) := by decide +kernel
theorem dX9_isPerson_0 : decode cX9_isPerson 0 = .ok (.iload_n 0, 1) := by decide +kernel
theorem dX9_isPerson_1 : decode cX9_isPerson 1 = .ok (.iconst 0, 1) := by decide +kernel
theorem dX9_isPerson_2 : decode cX9_isPerson 2 = .ok (.bipush 7, 2) := by decide +kernel
theorem dX9_isPerson_4 : decode cX9_isPerson 4 = .ok (.invokestatic 103, 3) := by decide +kernel
theorem dX9_isPerson_7 : decode cX9_isPerson 7 = .ok (.ireturn, 1) := by decide +kernel
theorem dX9_isHour_0 : decode cX9_isHour 0 = .ok (.iload_n 0, 1) := by decide +kernel
theorem dX9_isHour_1 : decode cX9_isHour 1 = .ok (.iconst 0, 1) := by decide +kernel
theorem dX9_isHour_2 : decode cX9_isHour 2 = .ok (.bipush 7, 2) := by decide +kernel
theorem dX9_isHour_4 : decode cX9_isHour 4 = .ok (.invokestatic 103, 3) := by decide +kernel
theorem dX9_isHour_7 : decode cX9_isHour 7 = .ok (.ireturn, 1) := by decide +kernel
theorem dX9_person_0 : decode cX9_person 0 = .ok (.iload_n 1, 1) := by decide +kernel
theorem dX9_person_1 : decode cX9_person 1 = .ok (.invokestatic 152, 3) := by decide +kernel
theorem dX9_person_4 : decode cX9_person 4 = .ok (.ifCond .eq 51, 3) := by decide +kernel
theorem dX9_person_7 : decode cX9_person 7 = .ok (.iload_n 2, 1) := by decide +kernel
theorem dX9_person_8 : decode cX9_person 8 = .ok (.iconst 0, 1) := by decide +kernel
theorem dX9_person_9 : decode cX9_person 9 = .ok (.iconst 3, 1) := by decide +kernel
theorem dX9_person_10 : decode cX9_person 10 = .ok (.invokestatic 103, 3) := by decide +kernel
theorem dX9_person_13 : decode cX9_person 13 = .ok (.ifCond .eq 42, 3) := by decide +kernel
theorem dX9_person_16 : decode cX9_person 16 = .ok (.iload_n 3, 1) := by decide +kernel
theorem dX9_person_17 : decode cX9_person 17 = .ok (.iconst 0, 1) := by decide +kernel
theorem dX9_person_18 : decode cX9_person 18 = .ok (.iload_n 2, 1) := by decide +kernel
theorem dX9_person_19 : decode cX9_person 19 = .ok (.ifCond .ne 8, 3) := by decide +kernel
theorem dX9_person_22 : decode cX9_person 22 = .ok (.bipush 7, 2) := by decide +kernel
theorem dX9_person_24 : decode cX9_person 24 = .ok (.goto 25, 3) := by decide +kernel
theorem dX9_person_27 : decode cX9_person 27 = .ok (.iload_n 2, 1) := by decide +kernel
theorem dX9_person_28 : decode cX9_person 28 = .ok (.iconst 1, 1) := by decide +kernel
theorem dX9_person_29 : decode cX9_person 29 = .ok (.if_icmp .ne 8, 3) := by decide +kernel
theorem dX9_person_32 : decode cX9_person 32 = .ok (.bipush 8, 2) := by decide +kernel
theorem dX9_person_34 : decode cX9_person 34 = .ok (.goto 15, 3) := by decide +kernel
theorem dX9_person_37 : decode cX9_person 37 = .ok (.iload_n 2, 1) := by decide +kernel
theorem dX9_person_38 : decode cX9_person 38 = .ok (.iconst 2, 1) := by decide +kernel
theorem dX9_person_39 : decode cX9_person 39 = .ok (.if_icmp .ne 8, 3) := by decide +kernel
theorem dX9_person_42 : decode cX9_person 42 = .ok (.bipush 99, 2) := by decide +kernel
theorem dX9_person_44 : decode cX9_person 44 = .ok (.goto 5, 3) := by decide +kernel
theorem dX9_person_47 : decode cX9_person 47 = .ok (.bipush 16, 2) := by decide +kernel
theorem dX9_person_49 : decode cX9_person 49 = .ok (.invokestatic 103, 3) := by decide +kernel
theorem dX9_person_52 : decode cX9_person 52 = .ok (.ifCond .ne 6, 3) := by decide +kernel
theorem dX9_person_55 : decode cX9_person 55 = .ok (.bipush (-2), 2) := by decide +kernel
theorem dX9_person_57 : decode cX9_person 57 = .ok (.ireturn, 1) := by decide +kernel
theorem dX9_person_58 : decode cX9_person 58 = .ok (.iload_n 2, 1) := by decide +kernel
theorem dX9_person_59 : decode cX9_person 59 = .ok (.ifCond .ne 12, 3) := by decide +kernel
theorem dX9_person_62 : decode cX9_person 62 = .ok (.aload_n 0, 1) := by decide +kernel
theorem dX9_person_63 : decode cX9_person 63 = .ok (.getfield 40, 3) := by decide +kernel
theorem dX9_person_66 : decode cX9_person 66 = .ok (.iload_n 1, 1) := by decide +kernel
theorem dX9_person_67 : decode cX9_person 67 = .ok (.iaload, 1) := by decide +kernel
theorem dX9_person_68 : decode cX9_person 68 = .ok (.goto 37, 3) := by decide +kernel
theorem dX9_person_71 : decode cX9_person 71 = .ok (.iload_n 2, 1) := by decide +kernel
theorem dX9_person_72 : decode cX9_person 72 = .ok (.iconst 1, 1) := by decide +kernel
theorem dX9_person_73 : decode cX9_person 73 = .ok (.if_icmp .ne 12, 3) := by decide +kernel
theorem dX9_person_76 : decode cX9_person 76 = .ok (.aload_n 0, 1) := by decide +kernel
theorem dX9_person_77 : decode cX9_person 77 = .ok (.getfield 43, 3) := by decide +kernel
theorem dX9_person_80 : decode cX9_person 80 = .ok (.iload_n 1, 1) := by decide +kernel
theorem dX9_person_81 : decode cX9_person 81 = .ok (.iaload, 1) := by decide +kernel
theorem dX9_person_82 : decode cX9_person 82 = .ok (.goto 23, 3) := by decide +kernel
theorem dX9_person_85 : decode cX9_person 85 = .ok (.iload_n 2, 1) := by decide +kernel
theorem dX9_person_86 : decode cX9_person 86 = .ok (.iconst 2, 1) := by decide +kernel
theorem dX9_person_87 : decode cX9_person 87 = .ok (.if_icmp .ne 12, 3) := by decide +kernel
theorem dX9_person_90 : decode cX9_person 90 = .ok (.aload_n 0, 1) := by decide +kernel
theorem dX9_person_91 : decode cX9_person 91 = .ok (.getfield 46, 3) := by decide +kernel
theorem dX9_person_94 : decode cX9_person 94 = .ok (.iload_n 1, 1) := by decide +kernel
theorem dX9_person_95 : decode cX9_person 95 = .ok (.iaload, 1) := by decide +kernel
theorem dX9_person_96 : decode cX9_person 96 = .ok (.goto 9, 3) := by decide +kernel
theorem dX9_person_99 : decode cX9_person 99 = .ok (.aload_n 0, 1) := by decide +kernel
theorem dX9_person_100 : decode cX9_person 100 = .ok (.getfield 49, 3) := by decide +kernel
theorem dX9_person_103 : decode cX9_person 103 = .ok (.iload_n 1, 1) := by decide +kernel
theorem dX9_person_104 : decode cX9_person 104 = .ok (.iaload, 1) := by decide +kernel
theorem dX9_person_105 : decode cX9_person 105 = .ok (.istore 4, 2) := by decide +kernel
theorem dX9_person_107 : decode cX9_person 107 = .ok (.iload_n 2, 1) := by decide +kernel
theorem dX9_person_108 : decode cX9_person 108 = .ok (.ifCond .ne 13, 3) := by decide +kernel
theorem dX9_person_111 : decode cX9_person 111 = .ok (.aload_n 0, 1) := by decide +kernel
theorem dX9_person_112 : decode cX9_person 112 = .ok (.getfield 40, 3) := by decide +kernel
theorem dX9_person_115 : decode cX9_person 115 = .ok (.iload_n 1, 1) := by decide +kernel
theorem dX9_person_116 : decode cX9_person 116 = .ok (.iload_n 3, 1) := by decide +kernel
theorem dX9_person_117 : decode cX9_person 117 = .ok (.iastore, 1) := by decide +kernel
theorem dX9_person_118 : decode cX9_person 118 = .ok (.goto 40, 3) := by decide +kernel
theorem dX9_person_121 : decode cX9_person 121 = .ok (.iload_n 2, 1) := by decide +kernel
theorem dX9_person_122 : decode cX9_person 122 = .ok (.iconst 1, 1) := by decide +kernel
theorem dX9_person_123 : decode cX9_person 123 = .ok (.if_icmp .ne 13, 3) := by decide +kernel
theorem dX9_person_126 : decode cX9_person 126 = .ok (.aload_n 0, 1) := by decide +kernel
theorem dX9_person_127 : decode cX9_person 127 = .ok (.getfield 43, 3) := by decide +kernel
theorem dX9_person_130 : decode cX9_person 130 = .ok (.iload_n 1, 1) := by decide +kernel
theorem dX9_person_131 : decode cX9_person 131 = .ok (.iload_n 3, 1) := by decide +kernel
theorem dX9_person_132 : decode cX9_person 132 = .ok (.iastore, 1) := by decide +kernel
theorem dX9_person_133 : decode cX9_person 133 = .ok (.goto 25, 3) := by decide +kernel
theorem dX9_person_136 : decode cX9_person 136 = .ok (.iload_n 2, 1) := by decide +kernel
theorem dX9_person_137 : decode cX9_person 137 = .ok (.iconst 2, 1) := by decide +kernel
theorem dX9_person_138 : decode cX9_person 138 = .ok (.if_icmp .ne 13, 3) := by decide +kernel
theorem dX9_person_141 : decode cX9_person 141 = .ok (.aload_n 0, 1) := by decide +kernel
theorem dX9_person_142 : decode cX9_person 142 = .ok (.getfield 46, 3) := by decide +kernel
theorem dX9_person_145 : decode cX9_person 145 = .ok (.iload_n 1, 1) := by decide +kernel
theorem dX9_person_146 : decode cX9_person 146 = .ok (.iload_n 3, 1) := by decide +kernel
theorem dX9_person_147 : decode cX9_person 147 = .ok (.iastore, 1) := by decide +kernel
theorem dX9_person_148 : decode cX9_person 148 = .ok (.goto 10, 3) := by decide +kernel
theorem dX9_person_151 : decode cX9_person 151 = .ok (.aload_n 0, 1) := by decide +kernel
theorem dX9_person_152 : decode cX9_person 152 = .ok (.getfield 49, 3) := by decide +kernel
theorem dX9_person_155 : decode cX9_person 155 = .ok (.iload_n 1, 1) := by decide +kernel
theorem dX9_person_156 : decode cX9_person 156 = .ok (.iload_n 3, 1) := by decide +kernel
theorem dX9_person_157 : decode cX9_person 157 = .ok (.iastore, 1) := by decide +kernel
theorem dX9_person_158 : decode cX9_person 158 = .ok (.iload 4, 2) := by decide +kernel
theorem dX9_person_160 : decode cX9_person 160 = .ok (.ireturn, 1) := by decide +kernel
theorem dX9_weather_0 : decode cX9_weather 0 = .ok (.iload_n 1, 1) := by decide +kernel
theorem dX9_weather_1 : decode cX9_weather 1 = .ok (.invokestatic 155, 3) := by decide +kernel
theorem dX9_weather_4 : decode cX9_weather 4 = .ok (.ifCond .eq 12, 3) := by decide +kernel
theorem dX9_weather_7 : decode cX9_weather 7 = .ok (.iload_n 2, 1) := by decide +kernel
theorem dX9_weather_8 : decode cX9_weather 8 = .ok (.iconst 0, 1) := by decide +kernel
theorem dX9_weather_9 : decode cX9_weather 9 = .ok (.iconst 1, 1) := by decide +kernel
theorem dX9_weather_10 : decode cX9_weather 10 = .ok (.invokestatic 103, 3) := by decide +kernel
theorem dX9_weather_13 : decode cX9_weather 13 = .ok (.ifCond .ne 6, 3) := by decide +kernel
theorem dX9_weather_16 : decode cX9_weather 16 = .ok (.bipush (-2), 2) := by decide +kernel
theorem dX9_weather_18 : decode cX9_weather 18 = .ok (.ireturn, 1) := by decide +kernel
theorem dX9_weather_19 : decode cX9_weather 19 = .ok (.aload_n 0, 1) := by decide +kernel
theorem dX9_weather_20 : decode cX9_weather 20 = .ok (.getfield 52, 3) := by decide +kernel
theorem dX9_weather_23 : decode cX9_weather 23 = .ok (.iload_n 1, 1) := by decide +kernel
theorem dX9_weather_24 : decode cX9_weather 24 = .ok (.iaload, 1) := by decide +kernel
theorem dX9_weather_25 : decode cX9_weather 25 = .ok (.istore_n 3, 1) := by decide +kernel
theorem dX9_weather_26 : decode cX9_weather 26 = .ok (.aload_n 0, 1) := by decide +kernel
theorem dX9_weather_27 : decode cX9_weather 27 = .ok (.getfield 52, 3) := by decide +kernel
theorem dX9_weather_30 : decode cX9_weather 30 = .ok (.iload_n 1, 1) := by decide +kernel
theorem dX9_weather_31 : decode cX9_weather 31 = .ok (.iload_n 2, 1) := by decide +kernel
theorem dX9_weather_32 : decode cX9_weather 32 = .ok (.iastore, 1) := by decide +kernel
theorem dX9_weather_33 : decode cX9_weather 33 = .ok (.iload_n 3, 1) := by decide +kernel
theorem dX9_weather_34 : decode cX9_weather 34 = .ok (.ireturn, 1) := by decide +kernel
theorem dX9_set_0 : decode cX9_set 0 = .ok (.iload_n 1, 1) := by decide +kernel
theorem dX9_set_1 : decode cX9_set 1 = .ok (.iconst 0, 1) := by decide +kernel
theorem dX9_set_2 : decode cX9_set 2 = .ok (.iconst 3, 1) := by decide +kernel
theorem dX9_set_3 : decode cX9_set 3 = .ok (.invokestatic 103, 3) := by decide +kernel
theorem dX9_set_6 : decode cX9_set 6 = .ok (.ifCond .eq 42, 3) := by decide +kernel
theorem dX9_set_9 : decode cX9_set 9 = .ok (.iload_n 2, 1) := by decide +kernel
theorem dX9_set_10 : decode cX9_set 10 = .ok (.iconst 0, 1) := by decide +kernel
theorem dX9_set_11 : decode cX9_set 11 = .ok (.iload_n 1, 1) := by decide +kernel
theorem dX9_set_12 : decode cX9_set 12 = .ok (.ifCond .ne 8, 3) := by decide +kernel
theorem dX9_set_15 : decode cX9_set 15 = .ok (.bipush 99, 2) := by decide +kernel
theorem dX9_set_17 : decode cX9_set 17 = .ok (.goto 25, 3) := by decide +kernel
theorem dX9_set_20 : decode cX9_set 20 = .ok (.iload_n 1, 1) := by decide +kernel
theorem dX9_set_21 : decode cX9_set 21 = .ok (.iconst 1, 1) := by decide +kernel
theorem dX9_set_22 : decode cX9_set 22 = .ok (.if_icmp .ne 7, 3) := by decide +kernel
theorem dX9_set_25 : decode cX9_set 25 = .ok (.iconst 1, 1) := by decide +kernel
theorem dX9_set_26 : decode cX9_set 26 = .ok (.goto 16, 3) := by decide +kernel
theorem dX9_set_29 : decode cX9_set 29 = .ok (.iload_n 1, 1) := by decide +kernel
theorem dX9_set_30 : decode cX9_set 30 = .ok (.iconst 2, 1) := by decide +kernel
theorem dX9_set_31 : decode cX9_set 31 = .ok (.if_icmp .ne 9, 3) := by decide +kernel
theorem dX9_set_34 : decode cX9_set 34 = .ok (.sipush 999, 3) := by decide +kernel
theorem dX9_set_37 : decode cX9_set 37 = .ok (.goto 5, 3) := by decide +kernel
theorem dX9_set_40 : decode cX9_set 40 = .ok (.bipush 10, 2) := by decide +kernel
theorem dX9_set_42 : decode cX9_set 42 = .ok (.invokestatic 103, 3) := by decide +kernel
theorem dX9_set_45 : decode cX9_set 45 = .ok (.ifCond .ne 6, 3) := by decide +kernel
theorem dX9_set_48 : decode cX9_set 48 = .ok (.bipush (-2), 2) := by decide +kernel
theorem dX9_set_50 : decode cX9_set 50 = .ok (.ireturn, 1) := by decide +kernel
theorem dX9_set_51 : decode cX9_set 51 = .ok (.aload_n 0, 1) := by decide +kernel
theorem dX9_set_52 : decode cX9_set 52 = .ok (.getfield 55, 3) := by decide +kernel
theorem dX9_set_55 : decode cX9_set 55 = .ok (.iload_n 1, 1) := by decide +kernel
theorem dX9_set_56 : decode cX9_set 56 = .ok (.iaload, 1) := by decide +kernel
theorem dX9_set_57 : decode cX9_set 57 = .ok (.istore_n 3, 1) := by decide +kernel
theorem dX9_set_58 : decode cX9_set 58 = .ok (.aload_n 0, 1) := by decide +kernel
theorem dX9_set_59 : decode cX9_set 59 = .ok (.getfield 55, 3) := by decide +kernel
theorem dX9_set_62 : decode cX9_set 62 = .ok (.iload_n 1, 1) := by decide +kernel
theorem dX9_set_63 : decode cX9_set 63 = .ok (.iload_n 2, 1) := by decide +kernel
theorem dX9_set_64 : decode cX9_set 64 = .ok (.iastore, 1) := by decide +kernel
theorem dX9_set_65 : decode cX9_set 65 = .ok (.iload_n 3, 1) := by decide +kernel
theorem dX9_set_66 : decode cX9_set 66 = .ok (.ireturn, 1) := by decide +kernel
theorem dX9_read_0 : decode cX9_read 0 = .ok (.iload_n 1, 1) := by decide +kernel
theorem dX9_read_1 : decode cX9_read 1 = .ok (.invokestatic 158, 3) := by decide +kernel
theorem dX9_read_4 : decode cX9_read 4 = .ok (.ifCond .ne 6, 3) := by decide +kernel
theorem dX9_read_7 : decode cX9_read 7 = .ok (.bipush (-2), 2) := by decide +kernel
theorem dX9_read_9 : decode cX9_read 9 = .ok (.ireturn, 1) := by decide +kernel
theorem dX9_read_10 : decode cX9_read 10 = .ok (.aload_n 0, 1) := by decide +kernel
theorem dX9_read_11 : decode cX9_read 11 = .ok (.getfield 85, 3) := by decide +kernel
theorem dX9_read_14 : decode cX9_read 14 = .ok (.iload_n 1, 1) := by decide +kernel
theorem dX9_read_15 : decode cX9_read 15 = .ok (.baload, 1) := by decide +kernel
theorem dX9_read_16 : decode cX9_read 16 = .ok (.ifCond .ne 9, 3) := by decide +kernel
theorem dX9_read_19 : decode cX9_read 19 = .ok (.aload_n 0, 1) := by decide +kernel
theorem dX9_read_20 : decode cX9_read 20 = .ok (.iconst 1, 1) := by decide +kernel
theorem dX9_read_21 : decode cX9_read 21 = .ok (.invokevirtual 161, 3) := by decide +kernel
theorem dX9_read_24 : decode cX9_read 24 = .ok (.ireturn, 1) := by decide +kernel
theorem dX9_read_25 : decode cX9_read 25 = .ok (.iconst 0, 1) := by decide +kernel
theorem dX9_read_26 : decode cX9_read 26 = .ok (.istore_n 2, 1) := by decide +kernel
theorem dX9_read_27 : decode cX9_read 27 = .ok (.iload_n 2, 1) := by decide +kernel
theorem dX9_read_28 : decode cX9_read 28 = .ok (.aload_n 0, 1) := by decide +kernel
theorem dX9_read_29 : decode cX9_read 29 = .ok (.getfield 92, 3) := by decide +kernel
theorem dX9_read_32 : decode cX9_read 32 = .ok (.iload_n 1, 1) := by decide +kernel
theorem dX9_read_33 : decode cX9_read 33 = .ok (.iaload, 1) := by decide +kernel
theorem dX9_read_34 : decode cX9_read 34 = .ok (.if_icmp .ge 51, 3) := by decide +kernel
theorem dX9_read_37 : decode cX9_read 37 = .ok (.iload_n 2, 1) := by decide +kernel
theorem dX9_read_38 : decode cX9_read 38 = .ok (.bipush 8, 2) := by decide +kernel
theorem dX9_read_40 : decode cX9_read 40 = .ok (.if_icmp .ge 45, 3) := by decide +kernel
theorem dX9_read_43 : decode cX9_read 43 = .ok (.aload_n 0, 1) := by decide +kernel
theorem dX9_read_44 : decode cX9_read 44 = .ok (.getfield 95, 3) := by decide +kernel
theorem dX9_read_47 : decode cX9_read 47 = .ok (.bipush 60, 2) := by decide +kernel
theorem dX9_read_49 : decode cX9_read 49 = .ok (.iload_n 1, 1) := by decide +kernel
theorem dX9_read_50 : decode cX9_read 50 = .ok (.imul, 1) := by decide +kernel
theorem dX9_read_51 : decode cX9_read 51 = .ok (.iload_n 2, 1) := by decide +kernel
theorem dX9_read_52 : decode cX9_read 52 = .ok (.iadd, 1) := by decide +kernel
theorem dX9_read_53 : decode cX9_read 53 = .ok (.iaload, 1) := by decide +kernel
theorem dX9_read_54 : decode cX9_read 54 = .ok (.iconst 0, 1) := by decide +kernel
theorem dX9_read_55 : decode cX9_read 55 = .ok (.iconst 1, 1) := by decide +kernel
theorem dX9_read_56 : decode cX9_read 56 = .ok (.invokestatic 103, 3) := by decide +kernel
theorem dX9_read_59 : decode cX9_read 59 = .ok (.ifCond .eq 26, 3) := by decide +kernel
theorem dX9_read_62 : decode cX9_read 62 = .ok (.aload_n 0, 1) := by decide +kernel
theorem dX9_read_63 : decode cX9_read 63 = .ok (.getfield 52, 3) := by decide +kernel
theorem dX9_read_66 : decode cX9_read 66 = .ok (.iload_n 2, 1) := by decide +kernel
theorem dX9_read_67 : decode cX9_read 67 = .ok (.aload_n 0, 1) := by decide +kernel
theorem dX9_read_68 : decode cX9_read 68 = .ok (.getfield 95, 3) := by decide +kernel
theorem dX9_read_71 : decode cX9_read 71 = .ok (.bipush 60, 2) := by decide +kernel
theorem dX9_read_73 : decode cX9_read 73 = .ok (.iload_n 1, 1) := by decide +kernel
theorem dX9_read_74 : decode cX9_read 74 = .ok (.imul, 1) := by decide +kernel
theorem dX9_read_75 : decode cX9_read 75 = .ok (.iload_n 2, 1) := by decide +kernel
theorem dX9_read_76 : decode cX9_read 76 = .ok (.iadd, 1) := by decide +kernel
theorem dX9_read_77 : decode cX9_read 77 = .ok (.iaload, 1) := by decide +kernel
theorem dX9_read_78 : decode cX9_read 78 = .ok (.iastore, 1) := by decide +kernel
theorem dX9_read_79 : decode cX9_read 79 = .ok (.iinc 2 1, 3) := by decide +kernel
theorem dX9_read_82 : decode cX9_read 82 = .ok (.goto (-55), 3) := by decide +kernel
theorem dX9_read_85 : decode cX9_read 85 = .ok (.iload_n 2, 1) := by decide +kernel
theorem dX9_read_86 : decode cX9_read 86 = .ok (.ireturn, 1) := by decide +kernel
theorem dX9_needs_0 : decode cX9_needs 0 = .ok (.aload_n 0, 1) := by decide +kernel
theorem dX9_needs_1 : decode cX9_needs 1 = .ok (.getfield 28, 3) := by decide +kernel
theorem dX9_needs_4 : decode cX9_needs 4 = .ok (.iload_n 1, 1) := by decide +kernel
theorem dX9_needs_5 : decode cX9_needs 5 = .ok (.iaload, 1) := by decide +kernel
theorem dX9_needs_6 : decode cX9_needs 6 = .ok (.invokestatic 164, 3) := by decide +kernel
theorem dX9_needs_9 : decode cX9_needs 9 = .ok (.istore_n 2, 1) := by decide +kernel
theorem dX9_needs_10 : decode cX9_needs 10 = .ok (.aload_n 0, 1) := by decide +kernel
theorem dX9_needs_11 : decode cX9_needs 11 = .ok (.getfield 31, 3) := by decide +kernel
theorem dX9_needs_14 : decode cX9_needs 14 = .ok (.aload_n 0, 1) := by decide +kernel
theorem dX9_needs_15 : decode cX9_needs 15 = .ok (.getfield 16, 3) := by decide +kernel
theorem dX9_needs_18 : decode cX9_needs 18 = .ok (.iload_n 1, 1) := by decide +kernel
theorem dX9_needs_19 : decode cX9_needs 19 = .ok (.iaload, 1) := by decide +kernel
theorem dX9_needs_20 : decode cX9_needs 20 = .ok (.iaload, 1) := by decide +kernel
theorem dX9_needs_21 : decode cX9_needs 21 = .ok (.iload_n 2, 1) := by decide +kernel
theorem dX9_needs_22 : decode cX9_needs 22 = .ok (.if_icmp .ge 17, 3) := by decide +kernel
theorem dX9_needs_25 : decode cX9_needs 25 = .ok (.aload_n 0, 1) := by decide +kernel
theorem dX9_needs_26 : decode cX9_needs 26 = .ok (.getfield 31, 3) := by decide +kernel
theorem dX9_needs_29 : decode cX9_needs 29 = .ok (.aload_n 0, 1) := by decide +kernel
theorem dX9_needs_30 : decode cX9_needs 30 = .ok (.getfield 16, 3) := by decide +kernel
theorem dX9_needs_33 : decode cX9_needs 33 = .ok (.iload_n 1, 1) := by decide +kernel
theorem dX9_needs_34 : decode cX9_needs 34 = .ok (.iaload, 1) := by decide +kernel
theorem dX9_needs_35 : decode cX9_needs 35 = .ok (.iaload, 1) := by decide +kernel
theorem dX9_needs_36 : decode cX9_needs 36 = .ok (.goto 4, 3) := by decide +kernel
theorem dX9_needs_39 : decode cX9_needs 39 = .ok (.iload_n 2, 1) := by decide +kernel
theorem dX9_needs_40 : decode cX9_needs 40 = .ok (.ireturn, 1) := by decide +kernel
theorem dX9_isTurned_0 : decode cX9_isTurned 0 = .ok (.aload_n 0, 1) := by decide +kernel
theorem dX9_isTurned_1 : decode cX9_isTurned 1 = .ok (.getfield 34, 3) := by decide +kernel
theorem dX9_isTurned_4 : decode cX9_isTurned 4 = .ok (.aload_n 0, 1) := by decide +kernel
theorem dX9_isTurned_5 : decode cX9_isTurned 5 = .ok (.getfield 16, 3) := by decide +kernel
theorem dX9_isTurned_8 : decode cX9_isTurned 8 = .ok (.iload_n 1, 1) := by decide +kernel
theorem dX9_isTurned_9 : decode cX9_isTurned 9 = .ok (.iaload, 1) := by decide +kernel
theorem dX9_isTurned_10 : decode cX9_isTurned 10 = .ok (.iaload, 1) := by decide +kernel
theorem dX9_isTurned_11 : decode cX9_isTurned 11 = .ok (.iconst 1, 1) := by decide +kernel
theorem dX9_isTurned_12 : decode cX9_isTurned 12 = .ok (.if_icmp .ne 22, 3) := by decide +kernel
theorem dX9_isTurned_15 : decode cX9_isTurned 15 = .ok (.aload_n 0, 1) := by decide +kernel
theorem dX9_isTurned_16 : decode cX9_isTurned 16 = .ok (.getfield 52, 3) := by decide +kernel
theorem dX9_isTurned_19 : decode cX9_isTurned 19 = .ok (.iload_n 2, 1) := by decide +kernel
theorem dX9_isTurned_20 : decode cX9_isTurned 20 = .ok (.iaload, 1) := by decide +kernel
theorem dX9_isTurned_21 : decode cX9_isTurned 21 = .ok (.aload_n 0, 1) := by decide +kernel
theorem dX9_isTurned_22 : decode cX9_isTurned 22 = .ok (.getfield 22, 3) := by decide +kernel
theorem dX9_isTurned_25 : decode cX9_isTurned 25 = .ok (.iload_n 1, 1) := by decide +kernel
theorem dX9_isTurned_26 : decode cX9_isTurned 26 = .ok (.iaload, 1) := by decide +kernel
theorem dX9_isTurned_27 : decode cX9_isTurned 27 = .ok (.if_icmp .eq 7, 3) := by decide +kernel
theorem dX9_isTurned_30 : decode cX9_isTurned 30 = .ok (.iconst 1, 1) := by decide +kernel
theorem dX9_isTurned_31 : decode cX9_isTurned 31 = .ok (.goto 4, 3) := by decide +kernel
theorem dX9_isTurned_34 : decode cX9_isTurned 34 = .ok (.iconst 0, 1) := by decide +kernel
theorem dX9_isTurned_35 : decode cX9_isTurned 35 = .ok (.ireturn, 1) := by decide +kernel
theorem dX9_comesOf_0 : decode cX9_comesOf 0 = .ok (.aload_n 0, 1) := by decide +kernel
theorem dX9_comesOf_1 : decode cX9_comesOf 1 = .ok (.iload_n 1, 1) := by decide +kernel
theorem dX9_comesOf_2 : decode cX9_comesOf 2 = .ok (.iload_n 2, 1) := by decide +kernel
theorem dX9_comesOf_3 : decode cX9_comesOf 3 = .ok (.invokevirtual 167, 3) := by decide +kernel
theorem dX9_comesOf_6 : decode cX9_comesOf 6 = .ok (.ifCond .eq 15, 3) := by decide +kernel
theorem dX9_comesOf_9 : decode cX9_comesOf 9 = .ok (.aload_n 0, 1) := by decide +kernel
theorem dX9_comesOf_10 : decode cX9_comesOf 10 = .ok (.getfield 55, 3) := by decide +kernel
theorem dX9_comesOf_13 : decode cX9_comesOf 13 = .ok (.iconst 1, 1) := by decide +kernel
theorem dX9_comesOf_14 : decode cX9_comesOf 14 = .ok (.iaload, 1) := by decide +kernel
theorem dX9_comesOf_15 : decode cX9_comesOf 15 = .ok (.ifCond .ne 6, 3) := by decide +kernel
theorem dX9_comesOf_18 : decode cX9_comesOf 18 = .ok (.bipush (-3), 2) := by decide +kernel
theorem dX9_comesOf_20 : decode cX9_comesOf 20 = .ok (.ireturn, 1) := by decide +kernel
theorem dX9_comesOf_21 : decode cX9_comesOf 21 = .ok (.iconst 0, 1) := by decide +kernel
theorem dX9_comesOf_22 : decode cX9_comesOf 22 = .ok (.istore_n 3, 1) := by decide +kernel
theorem dX9_comesOf_23 : decode cX9_comesOf 23 = .ok (.aload_n 0, 1) := by decide +kernel
theorem dX9_comesOf_24 : decode cX9_comesOf 24 = .ok (.iload_n 1, 1) := by decide +kernel
theorem dX9_comesOf_25 : decode cX9_comesOf 25 = .ok (.invokevirtual 170, 3) := by decide +kernel
theorem dX9_comesOf_28 : decode cX9_comesOf 28 = .ok (.istore 4, 2) := by decide +kernel
theorem dX9_comesOf_30 : decode cX9_comesOf 30 = .ok (.iload 4, 2) := by decide +kernel
theorem dX9_comesOf_32 : decode cX9_comesOf 32 = .ok (.ifCond .le 133, 3) := by decide +kernel
theorem dX9_comesOf_35 : decode cX9_comesOf 35 = .ok (.iconst (-1), 1) := by decide +kernel
theorem dX9_comesOf_36 : decode cX9_comesOf 36 = .ok (.istore 5, 2) := by decide +kernel
theorem dX9_comesOf_38 : decode cX9_comesOf 38 = .ok (.iconst 0, 1) := by decide +kernel
theorem dX9_comesOf_39 : decode cX9_comesOf 39 = .ok (.istore 6, 2) := by decide +kernel
theorem dX9_comesOf_41 : decode cX9_comesOf 41 = .ok (.iload 6, 2) := by decide +kernel
theorem dX9_comesOf_43 : decode cX9_comesOf 43 = .ok (.bipush 8, 2) := by decide +kernel
theorem dX9_comesOf_45 : decode cX9_comesOf 45 = .ok (.if_icmp .ge 98, 3) := by decide +kernel
theorem dX9_comesOf_48 : decode cX9_comesOf 48 = .ok (.aload_n 0, 1) := by decide +kernel
theorem dX9_comesOf_49 : decode cX9_comesOf 49 = .ok (.getfield 28, 3) := by decide +kernel
theorem dX9_comesOf_52 : decode cX9_comesOf 52 = .ok (.iload_n 1, 1) := by decide +kernel
theorem dX9_comesOf_53 : decode cX9_comesOf 53 = .ok (.iaload, 1) := by decide +kernel
theorem dX9_comesOf_54 : decode cX9_comesOf 54 = .ok (.iload 6, 2) := by decide +kernel
theorem dX9_comesOf_56 : decode cX9_comesOf 56 = .ok (.invokestatic 119, 3) := by decide +kernel
theorem dX9_comesOf_59 : decode cX9_comesOf 59 = .ok (.ifCond .eq 38, 3) := by decide +kernel
theorem dX9_comesOf_62 : decode cX9_comesOf 62 = .ok (.iload_n 3, 1) := by decide +kernel
theorem dX9_comesOf_63 : decode cX9_comesOf 63 = .ok (.iload 6, 2) := by decide +kernel
theorem dX9_comesOf_65 : decode cX9_comesOf 65 = .ok (.invokestatic 119, 3) := by decide +kernel
theorem dX9_comesOf_68 : decode cX9_comesOf 68 = .ok (.ifCond .ne 29, 3) := by decide +kernel
theorem dX9_comesOf_71 : decode cX9_comesOf 71 = .ok (.aload_n 0, 1) := by decide +kernel
theorem dX9_comesOf_72 : decode cX9_comesOf 72 = .ok (.getfield 40, 3) := by decide +kernel
theorem dX9_comesOf_75 : decode cX9_comesOf 75 = .ok (.iload 6, 2) := by decide +kernel
theorem dX9_comesOf_77 : decode cX9_comesOf 77 = .ok (.iaload, 1) := by decide +kernel
theorem dX9_comesOf_78 : decode cX9_comesOf 78 = .ok (.iload_n 2, 1) := by decide +kernel
theorem dX9_comesOf_79 : decode cX9_comesOf 79 = .ok (.if_icmp .gt 18, 3) := by decide +kernel
theorem dX9_comesOf_82 : decode cX9_comesOf 82 = .ok (.iload_n 2, 1) := by decide +kernel
theorem dX9_comesOf_83 : decode cX9_comesOf 83 = .ok (.aload_n 0, 1) := by decide +kernel
theorem dX9_comesOf_84 : decode cX9_comesOf 84 = .ok (.getfield 43, 3) := by decide +kernel
theorem dX9_comesOf_87 : decode cX9_comesOf 87 = .ok (.iload 6, 2) := by decide +kernel
theorem dX9_comesOf_89 : decode cX9_comesOf 89 = .ok (.iaload, 1) := by decide +kernel
theorem dX9_comesOf_90 : decode cX9_comesOf 90 = .ok (.if_icmp .ge 7, 3) := by decide +kernel
theorem dX9_comesOf_93 : decode cX9_comesOf 93 = .ok (.iconst 1, 1) := by decide +kernel
theorem dX9_comesOf_94 : decode cX9_comesOf 94 = .ok (.goto 4, 3) := by decide +kernel
theorem dX9_comesOf_97 : decode cX9_comesOf 97 = .ok (.iconst 0, 1) := by decide +kernel
theorem dX9_comesOf_98 : decode cX9_comesOf 98 = .ok (.istore 7, 2) := by decide +kernel
theorem dX9_comesOf_100 : decode cX9_comesOf 100 = .ok (.iload 7, 2) := by decide +kernel
theorem dX9_comesOf_102 : decode cX9_comesOf 102 = .ok (.ifCond .eq 31, 3) := by decide +kernel
theorem dX9_comesOf_105 : decode cX9_comesOf 105 = .ok (.iload 5, 2) := by decide +kernel
theorem dX9_comesOf_107 : decode cX9_comesOf 107 = .ok (.iconst (-1), 1) := by decide +kernel
theorem dX9_comesOf_108 : decode cX9_comesOf 108 = .ok (.if_icmp .eq 20, 3) := by decide +kernel
theorem dX9_comesOf_111 : decode cX9_comesOf 111 = .ok (.aload_n 0, 1) := by decide +kernel
theorem dX9_comesOf_112 : decode cX9_comesOf 112 = .ok (.getfield 46, 3) := by decide +kernel
theorem dX9_comesOf_115 : decode cX9_comesOf 115 = .ok (.iload 6, 2) := by decide +kernel
theorem dX9_comesOf_117 : decode cX9_comesOf 117 = .ok (.iaload, 1) := by decide +kernel
theorem dX9_comesOf_118 : decode cX9_comesOf 118 = .ok (.aload_n 0, 1) := by decide +kernel
theorem dX9_comesOf_119 : decode cX9_comesOf 119 = .ok (.getfield 46, 3) := by decide +kernel
theorem dX9_comesOf_122 : decode cX9_comesOf 122 = .ok (.iload 5, 2) := by decide +kernel
theorem dX9_comesOf_124 : decode cX9_comesOf 124 = .ok (.iaload, 1) := by decide +kernel
theorem dX9_comesOf_125 : decode cX9_comesOf 125 = .ok (.if_icmp .ge 8, 3) := by decide +kernel
theorem dX9_comesOf_128 : decode cX9_comesOf 128 = .ok (.iload 6, 2) := by decide +kernel
theorem dX9_comesOf_130 : decode cX9_comesOf 130 = .ok (.goto 5, 3) := by decide +kernel
theorem dX9_comesOf_133 : decode cX9_comesOf 133 = .ok (.iload 5, 2) := by decide +kernel
theorem dX9_comesOf_135 : decode cX9_comesOf 135 = .ok (.istore 5, 2) := by decide +kernel
theorem dX9_comesOf_137 : decode cX9_comesOf 137 = .ok (.iinc 6 1, 3) := by decide +kernel
theorem dX9_comesOf_140 : decode cX9_comesOf 140 = .ok (.goto (-99), 3) := by decide +kernel
theorem dX9_comesOf_143 : decode cX9_comesOf 143 = .ok (.iload 5, 2) := by decide +kernel
theorem dX9_comesOf_145 : decode cX9_comesOf 145 = .ok (.iconst (-1), 1) := by decide +kernel
theorem dX9_comesOf_146 : decode cX9_comesOf 146 = .ok (.if_icmp .ne 6, 3) := by decide +kernel
theorem dX9_comesOf_149 : decode cX9_comesOf 149 = .ok (.bipush (-3), 2) := by decide +kernel
theorem dX9_comesOf_151 : decode cX9_comesOf 151 = .ok (.ireturn, 1) := by decide +kernel
theorem dX9_comesOf_152 : decode cX9_comesOf 152 = .ok (.iload_n 3, 1) := by decide +kernel
theorem dX9_comesOf_153 : decode cX9_comesOf 153 = .ok (.iconst 1, 1) := by decide +kernel
theorem dX9_comesOf_154 : decode cX9_comesOf 154 = .ok (.iload 5, 2) := by decide +kernel
theorem dX9_comesOf_156 : decode cX9_comesOf 156 = .ok (.ishl, 1) := by decide +kernel
theorem dX9_comesOf_157 : decode cX9_comesOf 157 = .ok (.ior, 1) := by decide +kernel
theorem dX9_comesOf_158 : decode cX9_comesOf 158 = .ok (.istore_n 3, 1) := by decide +kernel
theorem dX9_comesOf_159 : decode cX9_comesOf 159 = .ok (.iinc 4 (-1), 3) := by decide +kernel
theorem dX9_comesOf_162 : decode cX9_comesOf 162 = .ok (.goto (-132), 3) := by decide +kernel
theorem dX9_comesOf_165 : decode cX9_comesOf 165 = .ok (.iload_n 3, 1) := by decide +kernel
theorem dX9_comesOf_166 : decode cX9_comesOf 166 = .ok (.ireturn, 1) := by decide +kernel
theorem dX9_canOf_0 : decode cX9_canOf 0 = .ok (.aload_n 0, 1) := by decide +kernel
theorem dX9_canOf_1 : decode cX9_canOf 1 = .ok (.iload_n 1, 1) := by decide +kernel
theorem dX9_canOf_2 : decode cX9_canOf 2 = .ok (.iload_n 2, 1) := by decide +kernel
theorem dX9_canOf_3 : decode cX9_canOf 3 = .ok (.invokevirtual 173, 3) := by decide +kernel
theorem dX9_canOf_6 : decode cX9_canOf 6 = .ok (.bipush (-3), 2) := by decide +kernel
theorem dX9_canOf_8 : decode cX9_canOf 8 = .ok (.if_icmp .ne 7, 3) := by decide +kernel
theorem dX9_canOf_11 : decode cX9_canOf 11 = .ok (.iconst 0, 1) := by decide +kernel
theorem dX9_canOf_12 : decode cX9_canOf 12 = .ok (.goto 4, 3) := by decide +kernel
theorem dX9_canOf_15 : decode cX9_canOf 15 = .ok (.iconst 1, 1) := by decide +kernel
theorem dX9_canOf_16 : decode cX9_canOf 16 = .ok (.ireturn, 1) := by decide +kernel
theorem dX9_can_0 : decode cX9_can 0 = .ok (.aload_n 0, 1) := by decide +kernel
theorem dX9_can_1 : decode cX9_can 1 = .ok (.iload_n 1, 1) := by decide +kernel
theorem dX9_can_2 : decode cX9_can 2 = .ok (.invokevirtual 142, 3) := by decide +kernel
theorem dX9_can_5 : decode cX9_can 5 = .ok (.ifCond .eq 19, 3) := by decide +kernel
theorem dX9_can_8 : decode cX9_can 8 = .ok (.iload_n 2, 1) := by decide +kernel
theorem dX9_can_9 : decode cX9_can 9 = .ok (.invokestatic 155, 3) := by decide +kernel
theorem dX9_can_12 : decode cX9_can 12 = .ok (.ifCond .eq 12, 3) := by decide +kernel
theorem dX9_can_15 : decode cX9_can 15 = .ok (.aload_n 0, 1) := by decide +kernel
theorem dX9_can_16 : decode cX9_can 16 = .ok (.iload_n 1, 1) := by decide +kernel
theorem dX9_can_17 : decode cX9_can 17 = .ok (.iload_n 2, 1) := by decide +kernel
theorem dX9_can_18 : decode cX9_can 18 = .ok (.invokevirtual 176, 3) := by decide +kernel
theorem dX9_can_21 : decode cX9_can 21 = .ok (.goto 5, 3) := by decide +kernel
theorem dX9_can_24 : decode cX9_can 24 = .ok (.bipush (-2), 2) := by decide +kernel
theorem dX9_can_26 : decode cX9_can 26 = .ok (.ireturn, 1) := by decide +kernel
theorem dX9_hoursOf_0 : decode cX9_hoursOf 0 = .ok (.iconst 0, 1) := by decide +kernel
theorem dX9_hoursOf_1 : decode cX9_hoursOf 1 = .ok (.istore_n 2, 1) := by decide +kernel
theorem dX9_hoursOf_2 : decode cX9_hoursOf 2 = .ok (.iconst 0, 1) := by decide +kernel
theorem dX9_hoursOf_3 : decode cX9_hoursOf 3 = .ok (.istore_n 3, 1) := by decide +kernel
theorem dX9_hoursOf_4 : decode cX9_hoursOf 4 = .ok (.iload_n 3, 1) := by decide +kernel
theorem dX9_hoursOf_5 : decode cX9_hoursOf 5 = .ok (.bipush 8, 2) := by decide +kernel
theorem dX9_hoursOf_7 : decode cX9_hoursOf 7 = .ok (.if_icmp .ge 20, 3) := by decide +kernel
theorem dX9_hoursOf_10 : decode cX9_hoursOf 10 = .ok (.iload_n 2, 1) := by decide +kernel
theorem dX9_hoursOf_11 : decode cX9_hoursOf 11 = .ok (.aload_n 0, 1) := by decide +kernel
theorem dX9_hoursOf_12 : decode cX9_hoursOf 12 = .ok (.iload_n 1, 1) := by decide +kernel
theorem dX9_hoursOf_13 : decode cX9_hoursOf 13 = .ok (.iload_n 3, 1) := by decide +kernel
theorem dX9_hoursOf_14 : decode cX9_hoursOf 14 = .ok (.invokevirtual 176, 3) := by decide +kernel
theorem dX9_hoursOf_17 : decode cX9_hoursOf 17 = .ok (.iload_n 3, 1) := by decide +kernel
theorem dX9_hoursOf_18 : decode cX9_hoursOf 18 = .ok (.ishl, 1) := by decide +kernel
theorem dX9_hoursOf_19 : decode cX9_hoursOf 19 = .ok (.ior, 1) := by decide +kernel
theorem dX9_hoursOf_20 : decode cX9_hoursOf 20 = .ok (.istore_n 2, 1) := by decide +kernel
theorem dX9_hoursOf_21 : decode cX9_hoursOf 21 = .ok (.iinc 3 1, 3) := by decide +kernel
theorem dX9_hoursOf_24 : decode cX9_hoursOf 24 = .ok (.goto (-20), 3) := by decide +kernel
theorem dX9_hoursOf_27 : decode cX9_hoursOf 27 = .ok (.iload_n 2, 1) := by decide +kernel
theorem dX9_hoursOf_28 : decode cX9_hoursOf 28 = .ok (.ireturn, 1) := by decide +kernel
theorem dX9_hours_0 : decode cX9_hours 0 = .ok (.aload_n 0, 1) := by decide +kernel
theorem dX9_hours_1 : decode cX9_hours 1 = .ok (.iload_n 1, 1) := by decide +kernel
theorem dX9_hours_2 : decode cX9_hours 2 = .ok (.invokevirtual 142, 3) := by decide +kernel
theorem dX9_hours_5 : decode cX9_hours 5 = .ok (.ifCond .eq 11, 3) := by decide +kernel
theorem dX9_hours_8 : decode cX9_hours 8 = .ok (.aload_n 0, 1) := by decide +kernel
theorem dX9_hours_9 : decode cX9_hours 9 = .ok (.iload_n 1, 1) := by decide +kernel
theorem dX9_hours_10 : decode cX9_hours 10 = .ok (.invokevirtual 179, 3) := by decide +kernel
theorem dX9_hours_13 : decode cX9_hours 13 = .ok (.goto 5, 3) := by decide +kernel
theorem dX9_hours_16 : decode cX9_hours 16 = .ok (.bipush (-2), 2) := by decide +kernel
theorem dX9_hours_18 : decode cX9_hours 18 = .ok (.ireturn, 1) := by decide +kernel
theorem dX9_comes_0 : decode cX9_comes 0 = .ok (.aload_n 0, 1) := by decide +kernel
theorem dX9_comes_1 : decode cX9_comes 1 = .ok (.iload_n 1, 1) := by decide +kernel
theorem dX9_comes_2 : decode cX9_comes 2 = .ok (.invokevirtual 142, 3) := by decide +kernel
theorem dX9_comes_5 : decode cX9_comes 5 = .ok (.ifCond .eq 19, 3) := by decide +kernel
theorem dX9_comes_8 : decode cX9_comes 8 = .ok (.iload_n 2, 1) := by decide +kernel
theorem dX9_comes_9 : decode cX9_comes 9 = .ok (.invokestatic 155, 3) := by decide +kernel
theorem dX9_comes_12 : decode cX9_comes 12 = .ok (.ifCond .eq 12, 3) := by decide +kernel
theorem dX9_comes_15 : decode cX9_comes 15 = .ok (.aload_n 0, 1) := by decide +kernel
theorem dX9_comes_16 : decode cX9_comes 16 = .ok (.iload_n 1, 1) := by decide +kernel
theorem dX9_comes_17 : decode cX9_comes 17 = .ok (.iload_n 2, 1) := by decide +kernel
theorem dX9_comes_18 : decode cX9_comes 18 = .ok (.invokevirtual 173, 3) := by decide +kernel
theorem dX9_comes_21 : decode cX9_comes 21 = .ok (.goto 5, 3) := by decide +kernel
theorem dX9_comes_24 : decode cX9_comes 24 = .ok (.bipush (-2), 2) := by decide +kernel
theorem dX9_comes_26 : decode cX9_comes 26 = .ok (.ireturn, 1) := by decide +kernel
theorem dX9_pricesOf_0 : decode cX9_pricesOf 0 = .ok (.iconst 0, 1) := by decide +kernel
theorem dX9_pricesOf_1 : decode cX9_pricesOf 1 = .ok (.istore_n 2, 1) := by decide +kernel
theorem dX9_pricesOf_2 : decode cX9_pricesOf 2 = .ok (.iconst 0, 1) := by decide +kernel
theorem dX9_pricesOf_3 : decode cX9_pricesOf 3 = .ok (.istore_n 3, 1) := by decide +kernel
theorem dX9_pricesOf_4 : decode cX9_pricesOf 4 = .ok (.iload_n 3, 1) := by decide +kernel
theorem dX9_pricesOf_5 : decode cX9_pricesOf 5 = .ok (.bipush 8, 2) := by decide +kernel
theorem dX9_pricesOf_7 : decode cX9_pricesOf 7 = .ok (.if_icmp .ge 30, 3) := by decide +kernel
theorem dX9_pricesOf_10 : decode cX9_pricesOf 10 = .ok (.iload_n 2, 1) := by decide +kernel
theorem dX9_pricesOf_11 : decode cX9_pricesOf 11 = .ok (.iload_n 1, 1) := by decide +kernel
theorem dX9_pricesOf_12 : decode cX9_pricesOf 12 = .ok (.iload_n 3, 1) := by decide +kernel
theorem dX9_pricesOf_13 : decode cX9_pricesOf 13 = .ok (.invokestatic 119, 3) := by decide +kernel
theorem dX9_pricesOf_16 : decode cX9_pricesOf 16 = .ok (.ifCond .eq 12, 3) := by decide +kernel
theorem dX9_pricesOf_19 : decode cX9_pricesOf 19 = .ok (.aload_n 0, 1) := by decide +kernel
theorem dX9_pricesOf_20 : decode cX9_pricesOf 20 = .ok (.getfield 46, 3) := by decide +kernel
theorem dX9_pricesOf_23 : decode cX9_pricesOf 23 = .ok (.iload_n 3, 1) := by decide +kernel
theorem dX9_pricesOf_24 : decode cX9_pricesOf 24 = .ok (.iaload, 1) := by decide +kernel
theorem dX9_pricesOf_25 : decode cX9_pricesOf 25 = .ok (.goto 4, 3) := by decide +kernel
theorem dX9_pricesOf_28 : decode cX9_pricesOf 28 = .ok (.iconst 0, 1) := by decide +kernel
theorem dX9_pricesOf_29 : decode cX9_pricesOf 29 = .ok (.iadd, 1) := by decide +kernel
theorem dX9_pricesOf_30 : decode cX9_pricesOf 30 = .ok (.istore_n 2, 1) := by decide +kernel
theorem dX9_pricesOf_31 : decode cX9_pricesOf 31 = .ok (.iinc 3 1, 3) := by decide +kernel
theorem dX9_pricesOf_34 : decode cX9_pricesOf 34 = .ok (.goto (-30), 3) := by decide +kernel
theorem dX9_pricesOf_37 : decode cX9_pricesOf 37 = .ok (.iload_n 2, 1) := by decide +kernel
theorem dX9_pricesOf_38 : decode cX9_pricesOf 38 = .ok (.ireturn, 1) := by decide +kernel
theorem dX9_costsOf_0 : decode cX9_costsOf 0 = .ok (.aload_n 0, 1) := by decide +kernel
theorem dX9_costsOf_1 : decode cX9_costsOf 1 = .ok (.iload_n 1, 1) := by decide +kernel
theorem dX9_costsOf_2 : decode cX9_costsOf 2 = .ok (.iload_n 2, 1) := by decide +kernel
theorem dX9_costsOf_3 : decode cX9_costsOf 3 = .ok (.invokevirtual 173, 3) := by decide +kernel
theorem dX9_costsOf_6 : decode cX9_costsOf 6 = .ok (.istore_n 3, 1) := by decide +kernel
theorem dX9_costsOf_7 : decode cX9_costsOf 7 = .ok (.iload_n 3, 1) := by decide +kernel
theorem dX9_costsOf_8 : decode cX9_costsOf 8 = .ok (.bipush (-3), 2) := by decide +kernel
theorem dX9_costsOf_10 : decode cX9_costsOf 10 = .ok (.if_icmp .ne 8, 3) := by decide +kernel
theorem dX9_costsOf_13 : decode cX9_costsOf 13 = .ok (.bipush (-3), 2) := by decide +kernel
theorem dX9_costsOf_15 : decode cX9_costsOf 15 = .ok (.goto 28, 3) := by decide +kernel
theorem dX9_costsOf_18 : decode cX9_costsOf 18 = .ok (.aload_n 0, 1) := by decide +kernel
theorem dX9_costsOf_19 : decode cX9_costsOf 19 = .ok (.iload_n 3, 1) := by decide +kernel
theorem dX9_costsOf_20 : decode cX9_costsOf 20 = .ok (.invokevirtual 182, 3) := by decide +kernel
theorem dX9_costsOf_23 : decode cX9_costsOf 23 = .ok (.aload_n 0, 1) := by decide +kernel
theorem dX9_costsOf_24 : decode cX9_costsOf 24 = .ok (.iload_n 1, 1) := by decide +kernel
theorem dX9_costsOf_25 : decode cX9_costsOf 25 = .ok (.iload_n 2, 1) := by decide +kernel
theorem dX9_costsOf_26 : decode cX9_costsOf 26 = .ok (.invokevirtual 167, 3) := by decide +kernel
theorem dX9_costsOf_29 : decode cX9_costsOf 29 = .ok (.ifCond .eq 12, 3) := by decide +kernel
theorem dX9_costsOf_32 : decode cX9_costsOf 32 = .ok (.aload_n 0, 1) := by decide +kernel
theorem dX9_costsOf_33 : decode cX9_costsOf 33 = .ok (.getfield 55, 3) := by decide +kernel
theorem dX9_costsOf_36 : decode cX9_costsOf 36 = .ok (.iconst 0, 1) := by decide +kernel
theorem dX9_costsOf_37 : decode cX9_costsOf 37 = .ok (.iaload, 1) := by decide +kernel
theorem dX9_costsOf_38 : decode cX9_costsOf 38 = .ok (.goto 4, 3) := by decide +kernel
theorem dX9_costsOf_41 : decode cX9_costsOf 41 = .ok (.iconst 0, 1) := by decide +kernel
theorem dX9_costsOf_42 : decode cX9_costsOf 42 = .ok (.iadd, 1) := by decide +kernel
theorem dX9_costsOf_43 : decode cX9_costsOf 43 = .ok (.ireturn, 1) := by decide +kernel
theorem dX9_costs_0 : decode cX9_costs 0 = .ok (.aload_n 0, 1) := by decide +kernel
theorem dX9_costs_1 : decode cX9_costs 1 = .ok (.iload_n 1, 1) := by decide +kernel
theorem dX9_costs_2 : decode cX9_costs 2 = .ok (.invokevirtual 142, 3) := by decide +kernel
theorem dX9_costs_5 : decode cX9_costs 5 = .ok (.ifCond .eq 19, 3) := by decide +kernel
theorem dX9_costs_8 : decode cX9_costs 8 = .ok (.iload_n 2, 1) := by decide +kernel
theorem dX9_costs_9 : decode cX9_costs 9 = .ok (.invokestatic 155, 3) := by decide +kernel
theorem dX9_costs_12 : decode cX9_costs 12 = .ok (.ifCond .eq 12, 3) := by decide +kernel
theorem dX9_costs_15 : decode cX9_costs 15 = .ok (.aload_n 0, 1) := by decide +kernel
theorem dX9_costs_16 : decode cX9_costs 16 = .ok (.iload_n 1, 1) := by decide +kernel
theorem dX9_costs_17 : decode cX9_costs 17 = .ok (.iload_n 2, 1) := by decide +kernel
theorem dX9_costs_18 : decode cX9_costs 18 = .ok (.invokevirtual 185, 3) := by decide +kernel
theorem dX9_costs_21 : decode cX9_costs 21 = .ok (.goto 5, 3) := by decide +kernel
theorem dX9_costs_24 : decode cX9_costs 24 = .ok (.bipush (-2), 2) := by decide +kernel
theorem dX9_costs_26 : decode cX9_costs 26 = .ok (.ireturn, 1) := by decide +kernel
theorem dX9_costTogether_0 : decode cX9_costTogether 0 = .ok (.iconst 0, 1) := by decide +kernel
theorem dX9_costTogether_1 : decode cX9_costTogether 1 = .ok (.istore_n 3, 1) := by decide +kernel
theorem dX9_costTogether_2 : decode cX9_costTogether 2 = .ok (.iconst 0, 1) := by decide +kernel
theorem dX9_costTogether_3 : decode cX9_costTogether 3 = .ok (.istore 4, 2) := by decide +kernel
theorem dX9_costTogether_5 : decode cX9_costTogether 5 = .ok (.iconst 0, 1) := by decide +kernel
theorem dX9_costTogether_6 : decode cX9_costTogether 6 = .ok (.istore 5, 2) := by decide +kernel
theorem dX9_costTogether_8 : decode cX9_costTogether 8 = .ok (.iconst 0, 1) := by decide +kernel
theorem dX9_costTogether_9 : decode cX9_costTogether 9 = .ok (.istore 6, 2) := by decide +kernel
theorem dX9_costTogether_11 : decode cX9_costTogether 11 = .ok (.iload 6, 2) := by decide +kernel
theorem dX9_costTogether_13 : decode cX9_costTogether 13 = .ok (.aload_n 0, 1) := by decide +kernel
theorem dX9_costTogether_14 : decode cX9_costTogether 14 = .ok (.getfield 107, 3) := by decide +kernel
theorem dX9_costTogether_17 : decode cX9_costTogether 17 = .ok (.if_icmp .ge 241, 3) := by decide +kernel
theorem dX9_costTogether_20 : decode cX9_costTogether 20 = .ok (.iload_n 1, 1) := by decide +kernel
theorem dX9_costTogether_21 : decode cX9_costTogether 21 = .ok (.iload 6, 2) := by decide +kernel
theorem dX9_costTogether_23 : decode cX9_costTogether 23 = .ok (.invokestatic 119, 3) := by decide +kernel
theorem dX9_costTogether_26 : decode cX9_costTogether 26 = .ok (.ifCond .eq 226, 3) := by decide +kernel
theorem dX9_costTogether_29 : decode cX9_costTogether 29 = .ok (.aload_n 0, 1) := by decide +kernel
theorem dX9_costTogether_30 : decode cX9_costTogether 30 = .ok (.iload 6, 2) := by decide +kernel
theorem dX9_costTogether_32 : decode cX9_costTogether 32 = .ok (.iload_n 2, 1) := by decide +kernel
theorem dX9_costTogether_33 : decode cX9_costTogether 33 = .ok (.invokevirtual 173, 3) := by decide +kernel
theorem dX9_costTogether_36 : decode cX9_costTogether 36 = .ok (.istore 7, 2) := by decide +kernel
theorem dX9_costTogether_38 : decode cX9_costTogether 38 = .ok (.iload 7, 2) := by decide +kernel
theorem dX9_costTogether_40 : decode cX9_costTogether 40 = .ok (.bipush (-3), 2) := by decide +kernel
theorem dX9_costTogether_42 : decode cX9_costTogether 42 = .ok (.if_icmp .eq 10, 3) := by decide +kernel
theorem dX9_costTogether_45 : decode cX9_costTogether 45 = .ok (.iload 7, 2) := by decide +kernel
theorem dX9_costTogether_47 : decode cX9_costTogether 47 = .ok (.iload_n 3, 1) := by decide +kernel
theorem dX9_costTogether_48 : decode cX9_costTogether 48 = .ok (.iand, 1) := by decide +kernel
theorem dX9_costTogether_49 : decode cX9_costTogether 49 = .ok (.ifCond .eq 6, 3) := by decide +kernel
theorem dX9_costTogether_52 : decode cX9_costTogether 52 = .ok (.ldc 188, 2) := by decide +kernel
theorem dX9_costTogether_54 : decode cX9_costTogether 54 = .ok (.ireturn, 1) := by decide +kernel
theorem dX9_costTogether_55 : decode cX9_costTogether 55 = .ok (.iload_n 3, 1) := by decide +kernel
theorem dX9_costTogether_56 : decode cX9_costTogether 56 = .ok (.iload 7, 2) := by decide +kernel
theorem dX9_costTogether_58 : decode cX9_costTogether 58 = .ok (.ior, 1) := by decide +kernel
theorem dX9_costTogether_59 : decode cX9_costTogether 59 = .ok (.istore_n 3, 1) := by decide +kernel
theorem dX9_costTogether_60 : decode cX9_costTogether 60 = .ok (.iload 4, 2) := by decide +kernel
theorem dX9_costTogether_62 : decode cX9_costTogether 62 = .ok (.aload_n 0, 1) := by decide +kernel
theorem dX9_costTogether_63 : decode cX9_costTogether 63 = .ok (.iload 7, 2) := by decide +kernel
theorem dX9_costTogether_65 : decode cX9_costTogether 65 = .ok (.invokevirtual 182, 3) := by decide +kernel
theorem dX9_costTogether_68 : decode cX9_costTogether 68 = .ok (.iadd, 1) := by decide +kernel
theorem dX9_costTogether_69 : decode cX9_costTogether 69 = .ok (.istore 4, 2) := by decide +kernel
theorem dX9_costTogether_71 : decode cX9_costTogether 71 = .ok (.iload 5, 2) := by decide +kernel
theorem dX9_costTogether_73 : decode cX9_costTogether 73 = .ok (.ifCond .ne 13, 3) := by decide +kernel
theorem dX9_costTogether_76 : decode cX9_costTogether 76 = .ok (.aload_n 0, 1) := by decide +kernel
theorem dX9_costTogether_77 : decode cX9_costTogether 77 = .ok (.iload 6, 2) := by decide +kernel
theorem dX9_costTogether_79 : decode cX9_costTogether 79 = .ok (.iload_n 2, 1) := by decide +kernel
theorem dX9_costTogether_80 : decode cX9_costTogether 80 = .ok (.invokevirtual 167, 3) := by decide +kernel
theorem dX9_costTogether_83 : decode cX9_costTogether 83 = .ok (.ifCond .eq 7, 3) := by decide +kernel
theorem dX9_costTogether_86 : decode cX9_costTogether 86 = .ok (.iconst 1, 1) := by decide +kernel
theorem dX9_costTogether_87 : decode cX9_costTogether 87 = .ok (.goto 4, 3) := by decide +kernel
theorem dX9_costTogether_90 : decode cX9_costTogether 90 = .ok (.iconst 0, 1) := by decide +kernel
theorem dX9_costTogether_91 : decode cX9_costTogether 91 = .ok (.istore 5, 2) := by decide +kernel
theorem dX9_costTogether_93 : decode cX9_costTogether 93 = .ok (.iconst 0, 1) := by decide +kernel
theorem dX9_costTogether_94 : decode cX9_costTogether 94 = .ok (.istore 8, 2) := by decide +kernel
theorem dX9_costTogether_96 : decode cX9_costTogether 96 = .ok (.iload 8, 2) := by decide +kernel
theorem dX9_costTogether_98 : decode cX9_costTogether 98 = .ok (.iload 6, 2) := by decide +kernel
theorem dX9_costTogether_100 : decode cX9_costTogether 100 = .ok (.if_icmp .ge 152, 3) := by decide +kernel
theorem dX9_costTogether_103 : decode cX9_costTogether 103 = .ok (.iload_n 1, 1) := by decide +kernel
theorem dX9_costTogether_104 : decode cX9_costTogether 104 = .ok (.iload 8, 2) := by decide +kernel
theorem dX9_costTogether_106 : decode cX9_costTogether 106 = .ok (.invokestatic 119, 3) := by decide +kernel
theorem dX9_costTogether_109 : decode cX9_costTogether 109 = .ok (.ifCond .eq 56, 3) := by decide +kernel
theorem dX9_costTogether_112 : decode cX9_costTogether 112 = .ok (.aload_n 0, 1) := by decide +kernel
theorem dX9_costTogether_113 : decode cX9_costTogether 113 = .ok (.getfield 37, 3) := by decide +kernel
theorem dX9_costTogether_116 : decode cX9_costTogether 116 = .ok (.aload_n 0, 1) := by decide +kernel
theorem dX9_costTogether_117 : decode cX9_costTogether 117 = .ok (.getfield 16, 3) := by decide +kernel
theorem dX9_costTogether_120 : decode cX9_costTogether 120 = .ok (.iload 6, 2) := by decide +kernel
theorem dX9_costTogether_122 : decode cX9_costTogether 122 = .ok (.iaload, 1) := by decide +kernel
theorem dX9_costTogether_123 : decode cX9_costTogether 123 = .ok (.iaload, 1) := by decide +kernel
theorem dX9_costTogether_124 : decode cX9_costTogether 124 = .ok (.iconst 1, 1) := by decide +kernel
theorem dX9_costTogether_125 : decode cX9_costTogether 125 = .ok (.if_icmp .ne 40, 3) := by decide +kernel
theorem dX9_costTogether_128 : decode cX9_costTogether 128 = .ok (.aload_n 0, 1) := by decide +kernel
theorem dX9_costTogether_129 : decode cX9_costTogether 129 = .ok (.getfield 37, 3) := by decide +kernel
theorem dX9_costTogether_132 : decode cX9_costTogether 132 = .ok (.aload_n 0, 1) := by decide +kernel
theorem dX9_costTogether_133 : decode cX9_costTogether 133 = .ok (.getfield 16, 3) := by decide +kernel
theorem dX9_costTogether_136 : decode cX9_costTogether 136 = .ok (.iload 8, 2) := by decide +kernel
theorem dX9_costTogether_138 : decode cX9_costTogether 138 = .ok (.iaload, 1) := by decide +kernel
theorem dX9_costTogether_139 : decode cX9_costTogether 139 = .ok (.iaload, 1) := by decide +kernel
theorem dX9_costTogether_140 : decode cX9_costTogether 140 = .ok (.iconst 1, 1) := by decide +kernel
theorem dX9_costTogether_141 : decode cX9_costTogether 141 = .ok (.if_icmp .ne 24, 3) := by decide +kernel
theorem dX9_costTogether_144 : decode cX9_costTogether 144 = .ok (.aload_n 0, 1) := by decide +kernel
theorem dX9_costTogether_145 : decode cX9_costTogether 145 = .ok (.getfield 19, 3) := by decide +kernel
theorem dX9_costTogether_148 : decode cX9_costTogether 148 = .ok (.iload 6, 2) := by decide +kernel
theorem dX9_costTogether_150 : decode cX9_costTogether 150 = .ok (.iaload, 1) := by decide +kernel
theorem dX9_costTogether_151 : decode cX9_costTogether 151 = .ok (.aload_n 0, 1) := by decide +kernel
theorem dX9_costTogether_152 : decode cX9_costTogether 152 = .ok (.getfield 19, 3) := by decide +kernel
theorem dX9_costTogether_155 : decode cX9_costTogether 155 = .ok (.iload 8, 2) := by decide +kernel
theorem dX9_costTogether_157 : decode cX9_costTogether 157 = .ok (.iaload, 1) := by decide +kernel
theorem dX9_costTogether_158 : decode cX9_costTogether 158 = .ok (.if_icmp .ne 7, 3) := by decide +kernel
theorem dX9_costTogether_161 : decode cX9_costTogether 161 = .ok (.iconst 1, 1) := by decide +kernel
theorem dX9_costTogether_162 : decode cX9_costTogether 162 = .ok (.goto 4, 3) := by decide +kernel
theorem dX9_costTogether_165 : decode cX9_costTogether 165 = .ok (.iconst 0, 1) := by decide +kernel
theorem dX9_costTogether_166 : decode cX9_costTogether 166 = .ok (.istore 9, 2) := by decide +kernel
theorem dX9_costTogether_168 : decode cX9_costTogether 168 = .ok (.iload_n 1, 1) := by decide +kernel
theorem dX9_costTogether_169 : decode cX9_costTogether 169 = .ok (.iload 8, 2) := by decide +kernel
theorem dX9_costTogether_171 : decode cX9_costTogether 171 = .ok (.invokestatic 119, 3) := by decide +kernel
theorem dX9_costTogether_174 : decode cX9_costTogether 174 = .ok (.ifCond .eq 56, 3) := by decide +kernel
theorem dX9_costTogether_177 : decode cX9_costTogether 177 = .ok (.aload_n 0, 1) := by decide +kernel
theorem dX9_costTogether_178 : decode cX9_costTogether 178 = .ok (.getfield 34, 3) := by decide +kernel
theorem dX9_costTogether_181 : decode cX9_costTogether 181 = .ok (.aload_n 0, 1) := by decide +kernel
theorem dX9_costTogether_182 : decode cX9_costTogether 182 = .ok (.getfield 16, 3) := by decide +kernel
theorem dX9_costTogether_185 : decode cX9_costTogether 185 = .ok (.iload 6, 2) := by decide +kernel
theorem dX9_costTogether_187 : decode cX9_costTogether 187 = .ok (.iaload, 1) := by decide +kernel
theorem dX9_costTogether_188 : decode cX9_costTogether 188 = .ok (.iaload, 1) := by decide +kernel
theorem dX9_costTogether_189 : decode cX9_costTogether 189 = .ok (.iconst 1, 1) := by decide +kernel
theorem dX9_costTogether_190 : decode cX9_costTogether 190 = .ok (.if_icmp .ne 40, 3) := by decide +kernel
theorem dX9_costTogether_193 : decode cX9_costTogether 193 = .ok (.aload_n 0, 1) := by decide +kernel
theorem dX9_costTogether_194 : decode cX9_costTogether 194 = .ok (.getfield 34, 3) := by decide +kernel
theorem dX9_costTogether_197 : decode cX9_costTogether 197 = .ok (.aload_n 0, 1) := by decide +kernel
theorem dX9_costTogether_198 : decode cX9_costTogether 198 = .ok (.getfield 16, 3) := by decide +kernel
theorem dX9_costTogether_201 : decode cX9_costTogether 201 = .ok (.iload 8, 2) := by decide +kernel
theorem dX9_costTogether_203 : decode cX9_costTogether 203 = .ok (.iaload, 1) := by decide +kernel
theorem dX9_costTogether_204 : decode cX9_costTogether 204 = .ok (.iaload, 1) := by decide +kernel
theorem dX9_costTogether_205 : decode cX9_costTogether 205 = .ok (.iconst 1, 1) := by decide +kernel
theorem dX9_costTogether_206 : decode cX9_costTogether 206 = .ok (.if_icmp .ne 24, 3) := by decide +kernel
theorem dX9_costTogether_209 : decode cX9_costTogether 209 = .ok (.aload_n 0, 1) := by decide +kernel
theorem dX9_costTogether_210 : decode cX9_costTogether 210 = .ok (.getfield 22, 3) := by decide +kernel
theorem dX9_costTogether_213 : decode cX9_costTogether 213 = .ok (.iload 6, 2) := by decide +kernel
theorem dX9_costTogether_215 : decode cX9_costTogether 215 = .ok (.iaload, 1) := by decide +kernel
theorem dX9_costTogether_216 : decode cX9_costTogether 216 = .ok (.aload_n 0, 1) := by decide +kernel
theorem dX9_costTogether_217 : decode cX9_costTogether 217 = .ok (.getfield 22, 3) := by decide +kernel
theorem dX9_costTogether_220 : decode cX9_costTogether 220 = .ok (.iload 8, 2) := by decide +kernel
theorem dX9_costTogether_222 : decode cX9_costTogether 222 = .ok (.iaload, 1) := by decide +kernel
theorem dX9_costTogether_223 : decode cX9_costTogether 223 = .ok (.if_icmp .eq 7, 3) := by decide +kernel
theorem dX9_costTogether_226 : decode cX9_costTogether 226 = .ok (.iconst 1, 1) := by decide +kernel
theorem dX9_costTogether_227 : decode cX9_costTogether 227 = .ok (.goto 4, 3) := by decide +kernel
theorem dX9_costTogether_230 : decode cX9_costTogether 230 = .ok (.iconst 0, 1) := by decide +kernel
theorem dX9_costTogether_231 : decode cX9_costTogether 231 = .ok (.istore 10, 2) := by decide +kernel
theorem dX9_costTogether_233 : decode cX9_costTogether 233 = .ok (.iload 9, 2) := by decide +kernel
theorem dX9_costTogether_235 : decode cX9_costTogether 235 = .ok (.ifCond .ne 8, 3) := by decide +kernel
theorem dX9_costTogether_238 : decode cX9_costTogether 238 = .ok (.iload 10, 2) := by decide +kernel
theorem dX9_costTogether_240 : decode cX9_costTogether 240 = .ok (.ifCond .eq 6, 3) := by decide +kernel
theorem dX9_costTogether_243 : decode cX9_costTogether 243 = .ok (.ldc 188, 2) := by decide +kernel
theorem dX9_costTogether_245 : decode cX9_costTogether 245 = .ok (.ireturn, 1) := by decide +kernel
theorem dX9_costTogether_246 : decode cX9_costTogether 246 = .ok (.iinc 8 1, 3) := by decide +kernel
theorem dX9_costTogether_249 : decode cX9_costTogether 249 = .ok (.goto (-153), 3) := by decide +kernel
theorem dX9_costTogether_252 : decode cX9_costTogether 252 = .ok (.iinc 6 1, 3) := by decide +kernel
theorem dX9_costTogether_255 : decode cX9_costTogether 255 = .ok (.goto (-244), 3) := by decide +kernel
theorem dX9_costTogether_258 : decode cX9_costTogether 258 = .ok (.iload 4, 2) := by decide +kernel
theorem dX9_costTogether_260 : decode cX9_costTogether 260 = .ok (.iload 5, 2) := by decide +kernel
theorem dX9_costTogether_262 : decode cX9_costTogether 262 = .ok (.ifCond .eq 12, 3) := by decide +kernel
theorem dX9_costTogether_265 : decode cX9_costTogether 265 = .ok (.aload_n 0, 1) := by decide +kernel
theorem dX9_costTogether_266 : decode cX9_costTogether 266 = .ok (.getfield 55, 3) := by decide +kernel
theorem dX9_costTogether_269 : decode cX9_costTogether 269 = .ok (.iconst 0, 1) := by decide +kernel
theorem dX9_costTogether_270 : decode cX9_costTogether 270 = .ok (.iaload, 1) := by decide +kernel
theorem dX9_costTogether_271 : decode cX9_costTogether 271 = .ok (.goto 4, 3) := by decide +kernel
theorem dX9_costTogether_274 : decode cX9_costTogether 274 = .ok (.iconst 0, 1) := by decide +kernel
theorem dX9_costTogether_275 : decode cX9_costTogether 275 = .ok (.iadd, 1) := by decide +kernel
theorem dX9_costTogether_276 : decode cX9_costTogether 276 = .ok (.ireturn, 1) := by decide +kernel
theorem dX9_worthBy_0 : decode cX9_worthBy 0 = .ok (.iconst 0, 1) := by decide +kernel
theorem dX9_worthBy_1 : decode cX9_worthBy 1 = .ok (.istore_n 2, 1) := by decide +kernel
theorem dX9_worthBy_2 : decode cX9_worthBy 2 = .ok (.iconst 0, 1) := by decide +kernel
theorem dX9_worthBy_3 : decode cX9_worthBy 3 = .ok (.istore_n 3, 1) := by decide +kernel
theorem dX9_worthBy_4 : decode cX9_worthBy 4 = .ok (.iload_n 3, 1) := by decide +kernel
theorem dX9_worthBy_5 : decode cX9_worthBy 5 = .ok (.aload_n 0, 1) := by decide +kernel
theorem dX9_worthBy_6 : decode cX9_worthBy 6 = .ok (.getfield 107, 3) := by decide +kernel
theorem dX9_worthBy_9 : decode cX9_worthBy 9 = .ok (.if_icmp .ge 30, 3) := by decide +kernel
theorem dX9_worthBy_12 : decode cX9_worthBy 12 = .ok (.iload_n 2, 1) := by decide +kernel
theorem dX9_worthBy_13 : decode cX9_worthBy 13 = .ok (.iload_n 1, 1) := by decide +kernel
theorem dX9_worthBy_14 : decode cX9_worthBy 14 = .ok (.iload_n 3, 1) := by decide +kernel
theorem dX9_worthBy_15 : decode cX9_worthBy 15 = .ok (.invokestatic 119, 3) := by decide +kernel
theorem dX9_worthBy_18 : decode cX9_worthBy 18 = .ok (.ifCond .eq 12, 3) := by decide +kernel
theorem dX9_worthBy_21 : decode cX9_worthBy 21 = .ok (.aload_n 0, 1) := by decide +kernel
theorem dX9_worthBy_22 : decode cX9_worthBy 22 = .ok (.getfield 25, 3) := by decide +kernel
theorem dX9_worthBy_25 : decode cX9_worthBy 25 = .ok (.iload_n 3, 1) := by decide +kernel
theorem dX9_worthBy_26 : decode cX9_worthBy 26 = .ok (.iaload, 1) := by decide +kernel
theorem dX9_worthBy_27 : decode cX9_worthBy 27 = .ok (.goto 4, 3) := by decide +kernel
theorem dX9_worthBy_30 : decode cX9_worthBy 30 = .ok (.iconst 0, 1) := by decide +kernel
theorem dX9_worthBy_31 : decode cX9_worthBy 31 = .ok (.iadd, 1) := by decide +kernel
theorem dX9_worthBy_32 : decode cX9_worthBy 32 = .ok (.istore_n 2, 1) := by decide +kernel
theorem dX9_worthBy_33 : decode cX9_worthBy 33 = .ok (.iinc 3 1, 3) := by decide +kernel
theorem dX9_worthBy_36 : decode cX9_worthBy 36 = .ok (.goto (-32), 3) := by decide +kernel
theorem dX9_worthBy_39 : decode cX9_worthBy 39 = .ok (.iload_n 2, 1) := by decide +kernel
theorem dX9_worthBy_40 : decode cX9_worthBy 40 = .ok (.ireturn, 1) := by decide +kernel
theorem dX9_bestOf_0 : decode cX9_bestOf 0 = .ok (.iconst 1, 1) := by decide +kernel
theorem dX9_bestOf_1 : decode cX9_bestOf 1 = .ok (.aload_n 0, 1) := by decide +kernel
theorem dX9_bestOf_2 : decode cX9_bestOf 2 = .ok (.getfield 107, 3) := by decide +kernel
theorem dX9_bestOf_5 : decode cX9_bestOf 5 = .ok (.ishl, 1) := by decide +kernel
theorem dX9_bestOf_6 : decode cX9_bestOf 6 = .ok (.iconst 1, 1) := by decide +kernel
theorem dX9_bestOf_7 : decode cX9_bestOf 7 = .ok (.isub, 1) := by decide +kernel
theorem dX9_bestOf_8 : decode cX9_bestOf 8 = .ok (.istore_n 2, 1) := by decide +kernel
theorem dX9_bestOf_9 : decode cX9_bestOf 9 = .ok (.iconst 0, 1) := by decide +kernel
theorem dX9_bestOf_10 : decode cX9_bestOf 10 = .ok (.istore_n 3, 1) := by decide +kernel
theorem dX9_bestOf_11 : decode cX9_bestOf 11 = .ok (.iload_n 3, 1) := by decide +kernel
theorem dX9_bestOf_12 : decode cX9_bestOf 12 = .ok (.iload_n 2, 1) := by decide +kernel
theorem dX9_bestOf_13 : decode cX9_bestOf 13 = .ok (.if_icmp .gt 25, 3) := by decide +kernel
theorem dX9_bestOf_16 : decode cX9_bestOf 16 = .ok (.aload_n 0, 1) := by decide +kernel
theorem dX9_bestOf_17 : decode cX9_bestOf 17 = .ok (.getfield 61, 3) := by decide +kernel
theorem dX9_bestOf_20 : decode cX9_bestOf 20 = .ok (.iload_n 3, 1) := by decide +kernel
theorem dX9_bestOf_21 : decode cX9_bestOf 21 = .ok (.iload_n 3, 1) := by decide +kernel
theorem dX9_bestOf_22 : decode cX9_bestOf 22 = .ok (.ifCond .ne 7, 3) := by decide +kernel
theorem dX9_bestOf_25 : decode cX9_bestOf 25 = .ok (.iconst 0, 1) := by decide +kernel
theorem dX9_bestOf_26 : decode cX9_bestOf 26 = .ok (.goto 5, 3) := by decide +kernel
theorem dX9_bestOf_29 : decode cX9_bestOf 29 = .ok (.ldc 188, 2) := by decide +kernel
theorem dX9_bestOf_31 : decode cX9_bestOf 31 = .ok (.iastore, 1) := by decide +kernel
theorem dX9_bestOf_32 : decode cX9_bestOf 32 = .ok (.iinc 3 1, 3) := by decide +kernel
theorem dX9_bestOf_35 : decode cX9_bestOf 35 = .ok (.goto (-24), 3) := by decide +kernel
theorem dX9_bestOf_38 : decode cX9_bestOf 38 = .ok (.iconst 0, 1) := by decide +kernel
theorem dX9_bestOf_39 : decode cX9_bestOf 39 = .ok (.istore_n 3, 1) := by decide +kernel
theorem dX9_bestOf_40 : decode cX9_bestOf 40 = .ok (.iload_n 3, 1) := by decide +kernel
theorem dX9_bestOf_41 : decode cX9_bestOf 41 = .ok (.bipush 8, 2) := by decide +kernel
theorem dX9_bestOf_43 : decode cX9_bestOf 43 = .ok (.if_icmp .ge 283, 3) := by decide +kernel
theorem dX9_bestOf_46 : decode cX9_bestOf 46 = .ok (.iconst 0, 1) := by decide +kernel
theorem dX9_bestOf_47 : decode cX9_bestOf 47 = .ok (.istore 4, 2) := by decide +kernel
theorem dX9_bestOf_49 : decode cX9_bestOf 49 = .ok (.iload_n 2, 1) := by decide +kernel
theorem dX9_bestOf_50 : decode cX9_bestOf 50 = .ok (.istore 5, 2) := by decide +kernel
theorem dX9_bestOf_52 : decode cX9_bestOf 52 = .ok (.iconst 0, 1) := by decide +kernel
theorem dX9_bestOf_53 : decode cX9_bestOf 53 = .ok (.istore 6, 2) := by decide +kernel
theorem dX9_bestOf_55 : decode cX9_bestOf 55 = .ok (.iload 6, 2) := by decide +kernel
theorem dX9_bestOf_57 : decode cX9_bestOf 57 = .ok (.iload_n 1, 1) := by decide +kernel
theorem dX9_bestOf_58 : decode cX9_bestOf 58 = .ok (.if_icmp .ge 59, 3) := by decide +kernel
theorem dX9_bestOf_61 : decode cX9_bestOf 61 = .ok (.iload 4, 2) := by decide +kernel
theorem dX9_bestOf_63 : decode cX9_bestOf 63 = .ok (.aload_n 0, 1) := by decide +kernel
theorem dX9_bestOf_64 : decode cX9_bestOf 64 = .ok (.getfield 67, 3) := by decide +kernel
theorem dX9_bestOf_67 : decode cX9_bestOf 67 = .ok (.iload 6, 2) := by decide +kernel
theorem dX9_bestOf_69 : decode cX9_bestOf 69 = .ok (.iaload, 1) := by decide +kernel
theorem dX9_bestOf_70 : decode cX9_bestOf 70 = .ok (.iload_n 3, 1) := by decide +kernel
theorem dX9_bestOf_71 : decode cX9_bestOf 71 = .ok (.if_icmp .ne 10, 3) := by decide +kernel
theorem dX9_bestOf_74 : decode cX9_bestOf 74 = .ok (.iconst 1, 1) := by decide +kernel
theorem dX9_bestOf_75 : decode cX9_bestOf 75 = .ok (.iload 6, 2) := by decide +kernel
theorem dX9_bestOf_77 : decode cX9_bestOf 77 = .ok (.ishl, 1) := by decide +kernel
theorem dX9_bestOf_78 : decode cX9_bestOf 78 = .ok (.goto 4, 3) := by decide +kernel
theorem dX9_bestOf_81 : decode cX9_bestOf 81 = .ok (.iconst 0, 1) := by decide +kernel
theorem dX9_bestOf_82 : decode cX9_bestOf 82 = .ok (.ior, 1) := by decide +kernel
theorem dX9_bestOf_83 : decode cX9_bestOf 83 = .ok (.istore 4, 2) := by decide +kernel
theorem dX9_bestOf_85 : decode cX9_bestOf 85 = .ok (.iload 5, 2) := by decide +kernel
theorem dX9_bestOf_87 : decode cX9_bestOf 87 = .ok (.aload_n 0, 1) := by decide +kernel
theorem dX9_bestOf_88 : decode cX9_bestOf 88 = .ok (.getfield 67, 3) := by decide +kernel
theorem dX9_bestOf_91 : decode cX9_bestOf 91 = .ok (.iload 6, 2) := by decide +kernel
theorem dX9_bestOf_93 : decode cX9_bestOf 93 = .ok (.iaload, 1) := by decide +kernel
theorem dX9_bestOf_94 : decode cX9_bestOf 94 = .ok (.iload_n 3, 1) := by decide +kernel
theorem dX9_bestOf_95 : decode cX9_bestOf 95 = .ok (.if_icmp .ne 7, 3) := by decide +kernel
theorem dX9_bestOf_98 : decode cX9_bestOf 98 = .ok (.iload_n 2, 1) := by decide +kernel
theorem dX9_bestOf_99 : decode cX9_bestOf 99 = .ok (.goto 9, 3) := by decide +kernel
theorem dX9_bestOf_102 : decode cX9_bestOf 102 = .ok (.iconst 1, 1) := by decide +kernel
theorem dX9_bestOf_103 : decode cX9_bestOf 103 = .ok (.iload 6, 2) := by decide +kernel
theorem dX9_bestOf_105 : decode cX9_bestOf 105 = .ok (.ishl, 1) := by decide +kernel
theorem dX9_bestOf_106 : decode cX9_bestOf 106 = .ok (.iconst (-1), 1) := by decide +kernel
theorem dX9_bestOf_107 : decode cX9_bestOf 107 = .ok (.ixor, 1) := by decide +kernel
theorem dX9_bestOf_108 : decode cX9_bestOf 108 = .ok (.iand, 1) := by decide +kernel
theorem dX9_bestOf_109 : decode cX9_bestOf 109 = .ok (.istore 5, 2) := by decide +kernel
theorem dX9_bestOf_111 : decode cX9_bestOf 111 = .ok (.iinc 6 1, 3) := by decide +kernel
theorem dX9_bestOf_114 : decode cX9_bestOf 114 = .ok (.goto (-59), 3) := by decide +kernel
theorem dX9_bestOf_117 : decode cX9_bestOf 117 = .ok (.iconst 0, 1) := by decide +kernel
theorem dX9_bestOf_118 : decode cX9_bestOf 118 = .ok (.istore 6, 2) := by decide +kernel
theorem dX9_bestOf_120 : decode cX9_bestOf 120 = .ok (.iload 6, 2) := by decide +kernel
theorem dX9_bestOf_122 : decode cX9_bestOf 122 = .ok (.iload_n 2, 1) := by decide +kernel
theorem dX9_bestOf_123 : decode cX9_bestOf 123 = .ok (.if_icmp .gt 168, 3) := by decide +kernel
theorem dX9_bestOf_126 : decode cX9_bestOf 126 = .ok (.aload_n 0, 1) := by decide +kernel
theorem dX9_bestOf_127 : decode cX9_bestOf 127 = .ok (.getfield 64, 3) := by decide +kernel
theorem dX9_bestOf_130 : decode cX9_bestOf 130 = .ok (.iload 6, 2) := by decide +kernel
theorem dX9_bestOf_132 : decode cX9_bestOf 132 = .ok (.ldc 188, 2) := by decide +kernel
theorem dX9_bestOf_134 : decode cX9_bestOf 134 = .ok (.iastore, 1) := by decide +kernel
theorem dX9_bestOf_135 : decode cX9_bestOf 135 = .ok (.iload 6, 2) := by decide +kernel
theorem dX9_bestOf_137 : decode cX9_bestOf 137 = .ok (.istore 7, 2) := by decide +kernel
theorem dX9_bestOf_139 : decode cX9_bestOf 139 = .ok (.iconst 1, 1) := by decide +kernel
theorem dX9_bestOf_140 : decode cX9_bestOf 140 = .ok (.istore 8, 2) := by decide +kernel
theorem dX9_bestOf_142 : decode cX9_bestOf 142 = .ok (.iload 8, 2) := by decide +kernel
theorem dX9_bestOf_144 : decode cX9_bestOf 144 = .ok (.ifCond .eq 141, 3) := by decide +kernel
theorem dX9_bestOf_147 : decode cX9_bestOf 147 = .ok (.iload 7, 2) := by decide +kernel
theorem dX9_bestOf_149 : decode cX9_bestOf 149 = .ok (.iload 4, 2) := by decide +kernel
theorem dX9_bestOf_151 : decode cX9_bestOf 151 = .ok (.iand, 1) := by decide +kernel
theorem dX9_bestOf_152 : decode cX9_bestOf 152 = .ok (.iload 4, 2) := by decide +kernel
theorem dX9_bestOf_154 : decode cX9_bestOf 154 = .ok (.if_icmp .ne 107, 3) := by decide +kernel
theorem dX9_bestOf_157 : decode cX9_bestOf 157 = .ok (.iload 7, 2) := by decide +kernel
theorem dX9_bestOf_159 : decode cX9_bestOf 159 = .ok (.iload 5, 2) := by decide +kernel
theorem dX9_bestOf_161 : decode cX9_bestOf 161 = .ok (.iconst (-1), 1) := by decide +kernel
theorem dX9_bestOf_162 : decode cX9_bestOf 162 = .ok (.ixor, 1) := by decide +kernel
theorem dX9_bestOf_163 : decode cX9_bestOf 163 = .ok (.iand, 1) := by decide +kernel
theorem dX9_bestOf_164 : decode cX9_bestOf 164 = .ok (.ifCond .ne 97, 3) := by decide +kernel
theorem dX9_bestOf_167 : decode cX9_bestOf 167 = .ok (.aload_n 0, 1) := by decide +kernel
theorem dX9_bestOf_168 : decode cX9_bestOf 168 = .ok (.getfield 58, 3) := by decide +kernel
theorem dX9_bestOf_171 : decode cX9_bestOf 171 = .ok (.sipush 256, 3) := by decide +kernel
theorem dX9_bestOf_174 : decode cX9_bestOf 174 = .ok (.iload_n 3, 1) := by decide +kernel
theorem dX9_bestOf_175 : decode cX9_bestOf 175 = .ok (.imul, 1) := by decide +kernel
theorem dX9_bestOf_176 : decode cX9_bestOf 176 = .ok (.iload 7, 2) := by decide +kernel
theorem dX9_bestOf_178 : decode cX9_bestOf 178 = .ok (.iadd, 1) := by decide +kernel
theorem dX9_bestOf_179 : decode cX9_bestOf 179 = .ok (.iaload, 1) := by decide +kernel
theorem dX9_bestOf_180 : decode cX9_bestOf 180 = .ok (.ldc 188, 2) := by decide +kernel
theorem dX9_bestOf_182 : decode cX9_bestOf 182 = .ok (.if_icmp .ge 79, 3) := by decide +kernel
theorem dX9_bestOf_185 : decode cX9_bestOf 185 = .ok (.aload_n 0, 1) := by decide +kernel
theorem dX9_bestOf_186 : decode cX9_bestOf 186 = .ok (.getfield 61, 3) := by decide +kernel
theorem dX9_bestOf_189 : decode cX9_bestOf 189 = .ok (.iload 6, 2) := by decide +kernel
theorem dX9_bestOf_191 : decode cX9_bestOf 191 = .ok (.iload 7, 2) := by decide +kernel
theorem dX9_bestOf_193 : decode cX9_bestOf 193 = .ok (.iconst (-1), 1) := by decide +kernel
theorem dX9_bestOf_194 : decode cX9_bestOf 194 = .ok (.ixor, 1) := by decide +kernel
theorem dX9_bestOf_195 : decode cX9_bestOf 195 = .ok (.iand, 1) := by decide +kernel
theorem dX9_bestOf_196 : decode cX9_bestOf 196 = .ok (.iaload, 1) := by decide +kernel
theorem dX9_bestOf_197 : decode cX9_bestOf 197 = .ok (.ldc 188, 2) := by decide +kernel
theorem dX9_bestOf_199 : decode cX9_bestOf 199 = .ok (.if_icmp .ge 62, 3) := by decide +kernel
theorem dX9_bestOf_202 : decode cX9_bestOf 202 = .ok (.aload_n 0, 1) := by decide +kernel
theorem dX9_bestOf_203 : decode cX9_bestOf 203 = .ok (.getfield 61, 3) := by decide +kernel
theorem dX9_bestOf_206 : decode cX9_bestOf 206 = .ok (.iload 6, 2) := by decide +kernel
theorem dX9_bestOf_208 : decode cX9_bestOf 208 = .ok (.iload 7, 2) := by decide +kernel
theorem dX9_bestOf_210 : decode cX9_bestOf 210 = .ok (.iconst (-1), 1) := by decide +kernel
theorem dX9_bestOf_211 : decode cX9_bestOf 211 = .ok (.ixor, 1) := by decide +kernel
theorem dX9_bestOf_212 : decode cX9_bestOf 212 = .ok (.iand, 1) := by decide +kernel
theorem dX9_bestOf_213 : decode cX9_bestOf 213 = .ok (.iaload, 1) := by decide +kernel
theorem dX9_bestOf_214 : decode cX9_bestOf 214 = .ok (.aload_n 0, 1) := by decide +kernel
theorem dX9_bestOf_215 : decode cX9_bestOf 215 = .ok (.getfield 58, 3) := by decide +kernel
theorem dX9_bestOf_218 : decode cX9_bestOf 218 = .ok (.sipush 256, 3) := by decide +kernel
theorem dX9_bestOf_221 : decode cX9_bestOf 221 = .ok (.iload_n 3, 1) := by decide +kernel
theorem dX9_bestOf_222 : decode cX9_bestOf 222 = .ok (.imul, 1) := by decide +kernel
theorem dX9_bestOf_223 : decode cX9_bestOf 223 = .ok (.iload 7, 2) := by decide +kernel
theorem dX9_bestOf_225 : decode cX9_bestOf 225 = .ok (.iadd, 1) := by decide +kernel
theorem dX9_bestOf_226 : decode cX9_bestOf 226 = .ok (.iaload, 1) := by decide +kernel
theorem dX9_bestOf_227 : decode cX9_bestOf 227 = .ok (.iadd, 1) := by decide +kernel
theorem dX9_bestOf_228 : decode cX9_bestOf 228 = .ok (.istore 9, 2) := by decide +kernel
theorem dX9_bestOf_230 : decode cX9_bestOf 230 = .ok (.aload_n 0, 1) := by decide +kernel
theorem dX9_bestOf_231 : decode cX9_bestOf 231 = .ok (.getfield 64, 3) := by decide +kernel
theorem dX9_bestOf_234 : decode cX9_bestOf 234 = .ok (.iload 6, 2) := by decide +kernel
theorem dX9_bestOf_236 : decode cX9_bestOf 236 = .ok (.iload 9, 2) := by decide +kernel
theorem dX9_bestOf_238 : decode cX9_bestOf 238 = .ok (.aload_n 0, 1) := by decide +kernel
theorem dX9_bestOf_239 : decode cX9_bestOf 239 = .ok (.getfield 64, 3) := by decide +kernel
theorem dX9_bestOf_242 : decode cX9_bestOf 242 = .ok (.iload 6, 2) := by decide +kernel
theorem dX9_bestOf_244 : decode cX9_bestOf 244 = .ok (.iaload, 1) := by decide +kernel
theorem dX9_bestOf_245 : decode cX9_bestOf 245 = .ok (.if_icmp .ge 8, 3) := by decide +kernel
theorem dX9_bestOf_248 : decode cX9_bestOf 248 = .ok (.iload 9, 2) := by decide +kernel
theorem dX9_bestOf_250 : decode cX9_bestOf 250 = .ok (.goto 10, 3) := by decide +kernel
theorem dX9_bestOf_253 : decode cX9_bestOf 253 = .ok (.aload_n 0, 1) := by decide +kernel
theorem dX9_bestOf_254 : decode cX9_bestOf 254 = .ok (.getfield 64, 3) := by decide +kernel
theorem dX9_bestOf_257 : decode cX9_bestOf 257 = .ok (.iload 6, 2) := by decide +kernel
theorem dX9_bestOf_259 : decode cX9_bestOf 259 = .ok (.iaload, 1) := by decide +kernel
theorem dX9_bestOf_260 : decode cX9_bestOf 260 = .ok (.iastore, 1) := by decide +kernel
theorem dX9_bestOf_261 : decode cX9_bestOf 261 = .ok (.iload 7, 2) := by decide +kernel
theorem dX9_bestOf_263 : decode cX9_bestOf 263 = .ok (.ifCond .eq 7, 3) := by decide +kernel
theorem dX9_bestOf_266 : decode cX9_bestOf 266 = .ok (.iconst 1, 1) := by decide +kernel
theorem dX9_bestOf_267 : decode cX9_bestOf 267 = .ok (.goto 4, 3) := by decide +kernel
theorem dX9_bestOf_270 : decode cX9_bestOf 270 = .ok (.iconst 0, 1) := by decide +kernel
theorem dX9_bestOf_271 : decode cX9_bestOf 271 = .ok (.istore 8, 2) := by decide +kernel
theorem dX9_bestOf_273 : decode cX9_bestOf 273 = .ok (.iload 7, 2) := by decide +kernel
theorem dX9_bestOf_275 : decode cX9_bestOf 275 = .ok (.iconst 1, 1) := by decide +kernel
theorem dX9_bestOf_276 : decode cX9_bestOf 276 = .ok (.isub, 1) := by decide +kernel
theorem dX9_bestOf_277 : decode cX9_bestOf 277 = .ok (.iload 6, 2) := by decide +kernel
theorem dX9_bestOf_279 : decode cX9_bestOf 279 = .ok (.iand, 1) := by decide +kernel
theorem dX9_bestOf_280 : decode cX9_bestOf 280 = .ok (.istore 7, 2) := by decide +kernel
theorem dX9_bestOf_282 : decode cX9_bestOf 282 = .ok (.goto (-140), 3) := by decide +kernel
theorem dX9_bestOf_285 : decode cX9_bestOf 285 = .ok (.iinc 6 1, 3) := by decide +kernel
theorem dX9_bestOf_288 : decode cX9_bestOf 288 = .ok (.goto (-168), 3) := by decide +kernel
theorem dX9_bestOf_291 : decode cX9_bestOf 291 = .ok (.iconst 0, 1) := by decide +kernel
theorem dX9_bestOf_292 : decode cX9_bestOf 292 = .ok (.istore 6, 2) := by decide +kernel
theorem dX9_bestOf_294 : decode cX9_bestOf 294 = .ok (.iload 6, 2) := by decide +kernel
theorem dX9_bestOf_296 : decode cX9_bestOf 296 = .ok (.iload_n 2, 1) := by decide +kernel
theorem dX9_bestOf_297 : decode cX9_bestOf 297 = .ok (.if_icmp .gt 23, 3) := by decide +kernel
theorem dX9_bestOf_300 : decode cX9_bestOf 300 = .ok (.aload_n 0, 1) := by decide +kernel
theorem dX9_bestOf_301 : decode cX9_bestOf 301 = .ok (.getfield 61, 3) := by decide +kernel
theorem dX9_bestOf_304 : decode cX9_bestOf 304 = .ok (.iload 6, 2) := by decide +kernel
theorem dX9_bestOf_306 : decode cX9_bestOf 306 = .ok (.aload_n 0, 1) := by decide +kernel
theorem dX9_bestOf_307 : decode cX9_bestOf 307 = .ok (.getfield 64, 3) := by decide +kernel
theorem dX9_bestOf_310 : decode cX9_bestOf 310 = .ok (.iload 6, 2) := by decide +kernel
theorem dX9_bestOf_312 : decode cX9_bestOf 312 = .ok (.iaload, 1) := by decide +kernel
theorem dX9_bestOf_313 : decode cX9_bestOf 313 = .ok (.iastore, 1) := by decide +kernel
theorem dX9_bestOf_314 : decode cX9_bestOf 314 = .ok (.iinc 6 1, 3) := by decide +kernel
theorem dX9_bestOf_317 : decode cX9_bestOf 317 = .ok (.goto (-23), 3) := by decide +kernel
theorem dX9_bestOf_320 : decode cX9_bestOf 320 = .ok (.iinc 3 1, 3) := by decide +kernel
theorem dX9_bestOf_323 : decode cX9_bestOf 323 = .ok (.goto (-283), 3) := by decide +kernel
theorem dX9_bestOf_326 : decode cX9_bestOf 326 = .ok (.aload_n 0, 1) := by decide +kernel
theorem dX9_bestOf_327 : decode cX9_bestOf 327 = .ok (.iconst (-1), 1) := by decide +kernel
theorem dX9_bestOf_328 : decode cX9_bestOf 328 = .ok (.putfield 189, 3) := by decide +kernel
theorem dX9_bestOf_331 : decode cX9_bestOf 331 = .ok (.aload_n 0, 1) := by decide +kernel
theorem dX9_bestOf_332 : decode cX9_bestOf 332 = .ok (.iconst 0, 1) := by decide +kernel
theorem dX9_bestOf_333 : decode cX9_bestOf 333 = .ok (.putfield 192, 3) := by decide +kernel
theorem dX9_bestOf_336 : decode cX9_bestOf 336 = .ok (.iconst 0, 1) := by decide +kernel
theorem dX9_bestOf_337 : decode cX9_bestOf 337 = .ok (.istore_n 3, 1) := by decide +kernel
theorem dX9_bestOf_338 : decode cX9_bestOf 338 = .ok (.iload_n 3, 1) := by decide +kernel
theorem dX9_bestOf_339 : decode cX9_bestOf 339 = .ok (.iload_n 2, 1) := by decide +kernel
theorem dX9_bestOf_340 : decode cX9_bestOf 340 = .ok (.if_icmp .gt 109, 3) := by decide +kernel
theorem dX9_bestOf_343 : decode cX9_bestOf 343 = .ok (.aload_n 0, 1) := by decide +kernel
theorem dX9_bestOf_344 : decode cX9_bestOf 344 = .ok (.iload_n 3, 1) := by decide +kernel
theorem dX9_bestOf_345 : decode cX9_bestOf 345 = .ok (.invokevirtual 195, 3) := by decide +kernel
theorem dX9_bestOf_348 : decode cX9_bestOf 348 = .ok (.istore 4, 2) := by decide +kernel
theorem dX9_bestOf_350 : decode cX9_bestOf 350 = .ok (.aload_n 0, 1) := by decide +kernel
theorem dX9_bestOf_351 : decode cX9_bestOf 351 = .ok (.getfield 61, 3) := by decide +kernel
theorem dX9_bestOf_354 : decode cX9_bestOf 354 = .ok (.iload_n 3, 1) := by decide +kernel
theorem dX9_bestOf_355 : decode cX9_bestOf 355 = .ok (.iaload, 1) := by decide +kernel
theorem dX9_bestOf_356 : decode cX9_bestOf 356 = .ok (.aload_n 0, 1) := by decide +kernel
theorem dX9_bestOf_357 : decode cX9_bestOf 357 = .ok (.getfield 55, 3) := by decide +kernel
theorem dX9_bestOf_360 : decode cX9_bestOf 360 = .ok (.iconst 2, 1) := by decide +kernel
theorem dX9_bestOf_361 : decode cX9_bestOf 361 = .ok (.iaload, 1) := by decide +kernel
theorem dX9_bestOf_362 : decode cX9_bestOf 362 = .ok (.if_icmp .gt 38, 3) := by decide +kernel
theorem dX9_bestOf_365 : decode cX9_bestOf 365 = .ok (.iload 4, 2) := by decide +kernel
theorem dX9_bestOf_367 : decode cX9_bestOf 367 = .ok (.aload_n 0, 1) := by decide +kernel
theorem dX9_bestOf_368 : decode cX9_bestOf 368 = .ok (.getfield 189, 3) := by decide +kernel
theorem dX9_bestOf_371 : decode cX9_bestOf 371 = .ok (.if_icmp .gt 25, 3) := by decide +kernel
theorem dX9_bestOf_374 : decode cX9_bestOf 374 = .ok (.iload 4, 2) := by decide +kernel
theorem dX9_bestOf_376 : decode cX9_bestOf 376 = .ok (.aload_n 0, 1) := by decide +kernel
theorem dX9_bestOf_377 : decode cX9_bestOf 377 = .ok (.getfield 189, 3) := by decide +kernel
theorem dX9_bestOf_380 : decode cX9_bestOf 380 = .ok (.if_icmp .ne 20, 3) := by decide +kernel
theorem dX9_bestOf_383 : decode cX9_bestOf 383 = .ok (.aload_n 0, 1) := by decide +kernel
theorem dX9_bestOf_384 : decode cX9_bestOf 384 = .ok (.getfield 61, 3) := by decide +kernel
theorem dX9_bestOf_387 : decode cX9_bestOf 387 = .ok (.iload_n 3, 1) := by decide +kernel
theorem dX9_bestOf_388 : decode cX9_bestOf 388 = .ok (.iaload, 1) := by decide +kernel
theorem dX9_bestOf_389 : decode cX9_bestOf 389 = .ok (.aload_n 0, 1) := by decide +kernel
theorem dX9_bestOf_390 : decode cX9_bestOf 390 = .ok (.getfield 192, 3) := by decide +kernel
theorem dX9_bestOf_393 : decode cX9_bestOf 393 = .ok (.if_icmp .ge 7, 3) := by decide +kernel
theorem dX9_bestOf_396 : decode cX9_bestOf 396 = .ok (.iconst 1, 1) := by decide +kernel
theorem dX9_bestOf_397 : decode cX9_bestOf 397 = .ok (.goto 4, 3) := by decide +kernel
theorem dX9_bestOf_400 : decode cX9_bestOf 400 = .ok (.iconst 0, 1) := by decide +kernel
theorem dX9_bestOf_401 : decode cX9_bestOf 401 = .ok (.istore 5, 2) := by decide +kernel
theorem dX9_bestOf_403 : decode cX9_bestOf 403 = .ok (.aload_n 0, 1) := by decide +kernel
theorem dX9_bestOf_404 : decode cX9_bestOf 404 = .ok (.iload 5, 2) := by decide +kernel
theorem dX9_bestOf_406 : decode cX9_bestOf 406 = .ok (.ifCond .eq 8, 3) := by decide +kernel
theorem dX9_bestOf_409 : decode cX9_bestOf 409 = .ok (.iload 4, 2) := by decide +kernel
theorem dX9_bestOf_411 : decode cX9_bestOf 411 = .ok (.goto 7, 3) := by decide +kernel
theorem dX9_bestOf_414 : decode cX9_bestOf 414 = .ok (.aload_n 0, 1) := by decide +kernel
theorem dX9_bestOf_415 : decode cX9_bestOf 415 = .ok (.getfield 189, 3) := by decide +kernel
theorem dX9_bestOf_418 : decode cX9_bestOf 418 = .ok (.putfield 189, 3) := by decide +kernel
theorem dX9_bestOf_421 : decode cX9_bestOf 421 = .ok (.aload_n 0, 1) := by decide +kernel
theorem dX9_bestOf_422 : decode cX9_bestOf 422 = .ok (.iload 5, 2) := by decide +kernel
theorem dX9_bestOf_424 : decode cX9_bestOf 424 = .ok (.ifCond .eq 12, 3) := by decide +kernel
theorem dX9_bestOf_427 : decode cX9_bestOf 427 = .ok (.aload_n 0, 1) := by decide +kernel
theorem dX9_bestOf_428 : decode cX9_bestOf 428 = .ok (.getfield 61, 3) := by decide +kernel
theorem dX9_bestOf_431 : decode cX9_bestOf 431 = .ok (.iload_n 3, 1) := by decide +kernel
theorem dX9_bestOf_432 : decode cX9_bestOf 432 = .ok (.iaload, 1) := by decide +kernel
theorem dX9_bestOf_433 : decode cX9_bestOf 433 = .ok (.goto 7, 3) := by decide +kernel
theorem dX9_bestOf_436 : decode cX9_bestOf 436 = .ok (.aload_n 0, 1) := by decide +kernel
theorem dX9_bestOf_437 : decode cX9_bestOf 437 = .ok (.getfield 192, 3) := by decide +kernel
theorem dX9_bestOf_440 : decode cX9_bestOf 440 = .ok (.putfield 192, 3) := by decide +kernel
theorem dX9_bestOf_443 : decode cX9_bestOf 443 = .ok (.iinc 3 1, 3) := by decide +kernel
theorem dX9_bestOf_446 : decode cX9_bestOf 446 = .ok (.goto (-108), 3) := by decide +kernel
theorem dX9_bestOf_449 : decode cX9_bestOf 449 = .ok (.return_, 1) := by decide +kernel
theorem dX9_laysMost_0 : decode cX9_laysMost 0 = .ok (.aload_n 0, 1) := by decide +kernel
theorem dX9_laysMost_1 : decode cX9_laysMost 1 = .ok (.invokevirtual 139, 3) := by decide +kernel
theorem dX9_laysMost_4 : decode cX9_laysMost 4 = .ok (.iconst 0, 1) := by decide +kernel
theorem dX9_laysMost_5 : decode cX9_laysMost 5 = .ok (.istore_n 1, 1) := by decide +kernel
theorem dX9_laysMost_6 : decode cX9_laysMost 6 = .ok (.iload_n 1, 1) := by decide +kernel
theorem dX9_laysMost_7 : decode cX9_laysMost 7 = .ok (.bipush 8, 2) := by decide +kernel
theorem dX9_laysMost_9 : decode cX9_laysMost 9 = .ok (.if_icmp .ge 45, 3) := by decide +kernel
theorem dX9_laysMost_12 : decode cX9_laysMost 12 = .ok (.iconst 0, 1) := by decide +kernel
theorem dX9_laysMost_13 : decode cX9_laysMost 13 = .ok (.istore_n 2, 1) := by decide +kernel
theorem dX9_laysMost_14 : decode cX9_laysMost 14 = .ok (.iload_n 2, 1) := by decide +kernel
theorem dX9_laysMost_15 : decode cX9_laysMost 15 = .ok (.iconst 1, 1) := by decide +kernel
theorem dX9_laysMost_16 : decode cX9_laysMost 16 = .ok (.aload_n 0, 1) := by decide +kernel
theorem dX9_laysMost_17 : decode cX9_laysMost 17 = .ok (.getfield 107, 3) := by decide +kernel
theorem dX9_laysMost_20 : decode cX9_laysMost 20 = .ok (.ishl, 1) := by decide +kernel
theorem dX9_laysMost_21 : decode cX9_laysMost 21 = .ok (.if_icmp .ge 27, 3) := by decide +kernel
theorem dX9_laysMost_24 : decode cX9_laysMost 24 = .ok (.aload_n 0, 1) := by decide +kernel
theorem dX9_laysMost_25 : decode cX9_laysMost 25 = .ok (.getfield 58, 3) := by decide +kernel
theorem dX9_laysMost_28 : decode cX9_laysMost 28 = .ok (.sipush 256, 3) := by decide +kernel
theorem dX9_laysMost_31 : decode cX9_laysMost 31 = .ok (.iload_n 1, 1) := by decide +kernel
theorem dX9_laysMost_32 : decode cX9_laysMost 32 = .ok (.imul, 1) := by decide +kernel
theorem dX9_laysMost_33 : decode cX9_laysMost 33 = .ok (.iload_n 2, 1) := by decide +kernel
theorem dX9_laysMost_34 : decode cX9_laysMost 34 = .ok (.iadd, 1) := by decide +kernel
theorem dX9_laysMost_35 : decode cX9_laysMost 35 = .ok (.aload_n 0, 1) := by decide +kernel
theorem dX9_laysMost_36 : decode cX9_laysMost 36 = .ok (.iload_n 2, 1) := by decide +kernel
theorem dX9_laysMost_37 : decode cX9_laysMost 37 = .ok (.iload_n 1, 1) := by decide +kernel
theorem dX9_laysMost_38 : decode cX9_laysMost 38 = .ok (.invokevirtual 198, 3) := by decide +kernel
theorem dX9_laysMost_41 : decode cX9_laysMost 41 = .ok (.iastore, 1) := by decide +kernel
theorem dX9_laysMost_42 : decode cX9_laysMost 42 = .ok (.iinc 2 1, 3) := by decide +kernel
theorem dX9_laysMost_45 : decode cX9_laysMost 45 = .ok (.goto (-31), 3) := by decide +kernel
theorem dX9_laysMost_48 : decode cX9_laysMost 48 = .ok (.iinc 1 1, 3) := by decide +kernel
theorem dX9_laysMost_51 : decode cX9_laysMost 51 = .ok (.goto (-45), 3) := by decide +kernel
theorem dX9_laysMost_54 : decode cX9_laysMost 54 = .ok (.aload_n 0, 1) := by decide +kernel
theorem dX9_laysMost_55 : decode cX9_laysMost 55 = .ok (.iconst 0, 1) := by decide +kernel
theorem dX9_laysMost_56 : decode cX9_laysMost 56 = .ok (.invokevirtual 201, 3) := by decide +kernel
theorem dX9_laysMost_59 : decode cX9_laysMost 59 = .ok (.aload_n 0, 1) := by decide +kernel
theorem dX9_laysMost_60 : decode cX9_laysMost 60 = .ok (.aload_n 0, 1) := by decide +kernel
theorem dX9_laysMost_61 : decode cX9_laysMost 61 = .ok (.getfield 189, 3) := by decide +kernel
theorem dX9_laysMost_64 : decode cX9_laysMost 64 = .ok (.putfield 205, 3) := by decide +kernel
theorem dX9_laysMost_67 : decode cX9_laysMost 67 = .ok (.aload_n 0, 1) := by decide +kernel
theorem dX9_laysMost_68 : decode cX9_laysMost 68 = .ok (.aload_n 0, 1) := by decide +kernel
theorem dX9_laysMost_69 : decode cX9_laysMost 69 = .ok (.getfield 192, 3) := by decide +kernel
theorem dX9_laysMost_72 : decode cX9_laysMost 72 = .ok (.putfield 208, 3) := by decide +kernel
theorem dX9_laysMost_75 : decode cX9_laysMost 75 = .ok (.iconst 0, 1) := by decide +kernel
theorem dX9_laysMost_76 : decode cX9_laysMost 76 = .ok (.istore_n 1, 1) := by decide +kernel
theorem dX9_laysMost_77 : decode cX9_laysMost 77 = .ok (.iload_n 1, 1) := by decide +kernel
theorem dX9_laysMost_78 : decode cX9_laysMost 78 = .ok (.aload_n 0, 1) := by decide +kernel
theorem dX9_laysMost_79 : decode cX9_laysMost 79 = .ok (.getfield 107, 3) := by decide +kernel
theorem dX9_laysMost_82 : decode cX9_laysMost 82 = .ok (.if_icmp .ge 65, 3) := by decide +kernel
theorem dX9_laysMost_85 : decode cX9_laysMost 85 = .ok (.aload_n 0, 1) := by decide +kernel
theorem dX9_laysMost_86 : decode cX9_laysMost 86 = .ok (.getfield 67, 3) := by decide +kernel
theorem dX9_laysMost_89 : decode cX9_laysMost 89 = .ok (.iload_n 1, 1) := by decide +kernel
theorem dX9_laysMost_90 : decode cX9_laysMost 90 = .ok (.iconst (-1), 1) := by decide +kernel
theorem dX9_laysMost_91 : decode cX9_laysMost 91 = .ok (.iastore, 1) := by decide +kernel
theorem dX9_laysMost_92 : decode cX9_laysMost 92 = .ok (.aload_n 0, 1) := by decide +kernel
theorem dX9_laysMost_93 : decode cX9_laysMost 93 = .ok (.iload_n 1, 1) := by decide +kernel
theorem dX9_laysMost_94 : decode cX9_laysMost 94 = .ok (.iconst 1, 1) := by decide +kernel
theorem dX9_laysMost_95 : decode cX9_laysMost 95 = .ok (.iadd, 1) := by decide +kernel
theorem dX9_laysMost_96 : decode cX9_laysMost 96 = .ok (.invokevirtual 201, 3) := by decide +kernel
theorem dX9_laysMost_99 : decode cX9_laysMost 99 = .ok (.aload_n 0, 1) := by decide +kernel
theorem dX9_laysMost_100 : decode cX9_laysMost 100 = .ok (.getfield 189, 3) := by decide +kernel
theorem dX9_laysMost_103 : decode cX9_laysMost 103 = .ok (.aload_n 0, 1) := by decide +kernel
theorem dX9_laysMost_104 : decode cX9_laysMost 104 = .ok (.getfield 205, 3) := by decide +kernel
theorem dX9_laysMost_107 : decode cX9_laysMost 107 = .ok (.if_icmp .ne 14, 3) := by decide +kernel
theorem dX9_laysMost_110 : decode cX9_laysMost 110 = .ok (.aload_n 0, 1) := by decide +kernel
theorem dX9_laysMost_111 : decode cX9_laysMost 111 = .ok (.getfield 192, 3) := by decide +kernel
theorem dX9_laysMost_114 : decode cX9_laysMost 114 = .ok (.aload_n 0, 1) := by decide +kernel
theorem dX9_laysMost_115 : decode cX9_laysMost 115 = .ok (.getfield 208, 3) := by decide +kernel
theorem dX9_laysMost_118 : decode cX9_laysMost 118 = .ok (.if_icmp .eq 23, 3) := by decide +kernel
theorem dX9_laysMost_121 : decode cX9_laysMost 121 = .ok (.aload_n 0, 1) := by decide +kernel
theorem dX9_laysMost_122 : decode cX9_laysMost 122 = .ok (.getfield 67, 3) := by decide +kernel
theorem dX9_laysMost_125 : decode cX9_laysMost 125 = .ok (.iload_n 1, 1) := by decide +kernel
theorem dX9_laysMost_126 : decode cX9_laysMost 126 = .ok (.dup2, 1) := by decide +kernel
theorem dX9_laysMost_127 : decode cX9_laysMost 127 = .ok (.iaload, 1) := by decide +kernel
theorem dX9_laysMost_128 : decode cX9_laysMost 128 = .ok (.iconst 1, 1) := by decide +kernel
theorem dX9_laysMost_129 : decode cX9_laysMost 129 = .ok (.iadd, 1) := by decide +kernel
theorem dX9_laysMost_130 : decode cX9_laysMost 130 = .ok (.iastore, 1) := by decide +kernel
theorem dX9_laysMost_131 : decode cX9_laysMost 131 = .ok (.aload_n 0, 1) := by decide +kernel
theorem dX9_laysMost_132 : decode cX9_laysMost 132 = .ok (.iload_n 1, 1) := by decide +kernel
theorem dX9_laysMost_133 : decode cX9_laysMost 133 = .ok (.iconst 1, 1) := by decide +kernel
theorem dX9_laysMost_134 : decode cX9_laysMost 134 = .ok (.iadd, 1) := by decide +kernel
theorem dX9_laysMost_135 : decode cX9_laysMost 135 = .ok (.invokevirtual 201, 3) := by decide +kernel
theorem dX9_laysMost_138 : decode cX9_laysMost 138 = .ok (.goto (-39), 3) := by decide +kernel
theorem dX9_laysMost_141 : decode cX9_laysMost 141 = .ok (.iinc 1 1, 3) := by decide +kernel
theorem dX9_laysMost_144 : decode cX9_laysMost 144 = .ok (.goto (-67), 3) := by decide +kernel
theorem dX9_laysMost_147 : decode cX9_laysMost 147 = .ok (.return_, 1) := by decide +kernel
theorem dX9_most_0 : decode cX9_most 0 = .ok (.iload_n 1, 1) := by decide +kernel
theorem dX9_most_1 : decode cX9_most 1 = .ok (.iconst 0, 1) := by decide +kernel
theorem dX9_most_2 : decode cX9_most 2 = .ok (.iconst 1, 1) := by decide +kernel
theorem dX9_most_3 : decode cX9_most 3 = .ok (.invokestatic 103, 3) := by decide +kernel
theorem dX9_most_6 : decode cX9_most 6 = .ok (.ifCond .ne 6, 3) := by decide +kernel
theorem dX9_most_9 : decode cX9_most 9 = .ok (.bipush (-2), 2) := by decide +kernel
theorem dX9_most_11 : decode cX9_most 11 = .ok (.ireturn, 1) := by decide +kernel
theorem dX9_most_12 : decode cX9_most 12 = .ok (.aload_n 0, 1) := by decide +kernel
theorem dX9_most_13 : decode cX9_most 13 = .ok (.invokevirtual 211, 3) := by decide +kernel
theorem dX9_most_16 : decode cX9_most 16 = .ok (.iload_n 1, 1) := by decide +kernel
theorem dX9_most_17 : decode cX9_most 17 = .ok (.ifCond .ne 10, 3) := by decide +kernel
theorem dX9_most_20 : decode cX9_most 20 = .ok (.aload_n 0, 1) := by decide +kernel
theorem dX9_most_21 : decode cX9_most 21 = .ok (.getfield 205, 3) := by decide +kernel
theorem dX9_most_24 : decode cX9_most 24 = .ok (.goto 7, 3) := by decide +kernel
theorem dX9_most_27 : decode cX9_most 27 = .ok (.aload_n 0, 1) := by decide +kernel
theorem dX9_most_28 : decode cX9_most 28 = .ok (.getfield 208, 3) := by decide +kernel
theorem dX9_most_31 : decode cX9_most 31 = .ok (.ireturn, 1) := by decide +kernel
theorem dX9_when_0 : decode cX9_when 0 = .ok (.aload_n 0, 1) := by decide +kernel
theorem dX9_when_1 : decode cX9_when 1 = .ok (.iload_n 1, 1) := by decide +kernel
theorem dX9_when_2 : decode cX9_when 2 = .ok (.invokevirtual 142, 3) := by decide +kernel
theorem dX9_when_5 : decode cX9_when 5 = .ok (.ifCond .ne 6, 3) := by decide +kernel
theorem dX9_when_8 : decode cX9_when 8 = .ok (.bipush (-2), 2) := by decide +kernel
theorem dX9_when_10 : decode cX9_when 10 = .ok (.ireturn, 1) := by decide +kernel
theorem dX9_when_11 : decode cX9_when 11 = .ok (.aload_n 0, 1) := by decide +kernel
theorem dX9_when_12 : decode cX9_when 12 = .ok (.invokevirtual 211, 3) := by decide +kernel
theorem dX9_when_15 : decode cX9_when 15 = .ok (.aload_n 0, 1) := by decide +kernel
theorem dX9_when_16 : decode cX9_when 16 = .ok (.getfield 67, 3) := by decide +kernel
theorem dX9_when_19 : decode cX9_when 19 = .ok (.iload_n 1, 1) := by decide +kernel
theorem dX9_when_20 : decode cX9_when 20 = .ok (.iaload, 1) := by decide +kernel
theorem dX9_when_21 : decode cX9_when 21 = .ok (.ireturn, 1) := by decide +kernel
theorem dX9_planCostOf_0 : decode cX9_planCostOf 0 = .ok (.iconst 0, 1) := by decide +kernel
theorem dX9_planCostOf_1 : decode cX9_planCostOf 1 = .ok (.istore_n 2, 1) := by decide +kernel
theorem dX9_planCostOf_2 : decode cX9_planCostOf 2 = .ok (.iconst 0, 1) := by decide +kernel
theorem dX9_planCostOf_3 : decode cX9_planCostOf 3 = .ok (.istore_n 3, 1) := by decide +kernel
theorem dX9_planCostOf_4 : decode cX9_planCostOf 4 = .ok (.iload_n 3, 1) := by decide +kernel
theorem dX9_planCostOf_5 : decode cX9_planCostOf 5 = .ok (.aload_n 0, 1) := by decide +kernel
theorem dX9_planCostOf_6 : decode cX9_planCostOf 6 = .ok (.getfield 107, 3) := by decide +kernel
theorem dX9_planCostOf_9 : decode cX9_planCostOf 9 = .ok (.if_icmp .ge 32, 3) := by decide +kernel
theorem dX9_planCostOf_12 : decode cX9_planCostOf 12 = .ok (.aload_n 0, 1) := by decide +kernel
theorem dX9_planCostOf_13 : decode cX9_planCostOf 13 = .ok (.getfield 95, 3) := by decide +kernel
theorem dX9_planCostOf_16 : decode cX9_planCostOf 16 = .ok (.bipush 60, 2) := by decide +kernel
theorem dX9_planCostOf_18 : decode cX9_planCostOf 18 = .ok (.iload_n 1, 1) := by decide +kernel
theorem dX9_planCostOf_19 : decode cX9_planCostOf 19 = .ok (.imul, 1) := by decide +kernel
theorem dX9_planCostOf_20 : decode cX9_planCostOf 20 = .ok (.iload_n 3, 1) := by decide +kernel
theorem dX9_planCostOf_21 : decode cX9_planCostOf 21 = .ok (.iadd, 1) := by decide +kernel
theorem dX9_planCostOf_22 : decode cX9_planCostOf 22 = .ok (.iaload, 1) := by decide +kernel
theorem dX9_planCostOf_23 : decode cX9_planCostOf 23 = .ok (.iconst (-1), 1) := by decide +kernel
theorem dX9_planCostOf_24 : decode cX9_planCostOf 24 = .ok (.bipush 7, 2) := by decide +kernel
theorem dX9_planCostOf_26 : decode cX9_planCostOf 26 = .ok (.invokestatic 103, 3) := by decide +kernel
theorem dX9_planCostOf_29 : decode cX9_planCostOf 29 = .ok (.ifCond .ne 6, 3) := by decide +kernel
theorem dX9_planCostOf_32 : decode cX9_planCostOf 32 = .ok (.bipush (-3), 2) := by decide +kernel
theorem dX9_planCostOf_34 : decode cX9_planCostOf 34 = .ok (.ireturn, 1) := by decide +kernel
theorem dX9_planCostOf_35 : decode cX9_planCostOf 35 = .ok (.iinc 3 1, 3) := by decide +kernel
theorem dX9_planCostOf_38 : decode cX9_planCostOf 38 = .ok (.goto (-34), 3) := by decide +kernel
theorem dX9_planCostOf_41 : decode cX9_planCostOf 41 = .ok (.iconst 0, 1) := by decide +kernel
theorem dX9_planCostOf_42 : decode cX9_planCostOf 42 = .ok (.istore_n 3, 1) := by decide +kernel
theorem dX9_planCostOf_43 : decode cX9_planCostOf 43 = .ok (.iload_n 3, 1) := by decide +kernel
theorem dX9_planCostOf_44 : decode cX9_planCostOf 44 = .ok (.bipush 8, 2) := by decide +kernel
theorem dX9_planCostOf_46 : decode cX9_planCostOf 46 = .ok (.if_icmp .ge 83, 3) := by decide +kernel
theorem dX9_planCostOf_49 : decode cX9_planCostOf 49 = .ok (.iconst 0, 1) := by decide +kernel
theorem dX9_planCostOf_50 : decode cX9_planCostOf 50 = .ok (.istore 4, 2) := by decide +kernel
theorem dX9_planCostOf_52 : decode cX9_planCostOf 52 = .ok (.iconst 0, 1) := by decide +kernel
theorem dX9_planCostOf_53 : decode cX9_planCostOf 53 = .ok (.istore 5, 2) := by decide +kernel
theorem dX9_planCostOf_55 : decode cX9_planCostOf 55 = .ok (.iload 5, 2) := by decide +kernel
theorem dX9_planCostOf_57 : decode cX9_planCostOf 57 = .ok (.aload_n 0, 1) := by decide +kernel
theorem dX9_planCostOf_58 : decode cX9_planCostOf 58 = .ok (.getfield 107, 3) := by decide +kernel
theorem dX9_planCostOf_61 : decode cX9_planCostOf 61 = .ok (.if_icmp .ge 38, 3) := by decide +kernel
theorem dX9_planCostOf_64 : decode cX9_planCostOf 64 = .ok (.iload 4, 2) := by decide +kernel
theorem dX9_planCostOf_66 : decode cX9_planCostOf 66 = .ok (.aload_n 0, 1) := by decide +kernel
theorem dX9_planCostOf_67 : decode cX9_planCostOf 67 = .ok (.getfield 95, 3) := by decide +kernel
theorem dX9_planCostOf_70 : decode cX9_planCostOf 70 = .ok (.bipush 60, 2) := by decide +kernel
theorem dX9_planCostOf_72 : decode cX9_planCostOf 72 = .ok (.iload_n 1, 1) := by decide +kernel
theorem dX9_planCostOf_73 : decode cX9_planCostOf 73 = .ok (.imul, 1) := by decide +kernel
theorem dX9_planCostOf_74 : decode cX9_planCostOf 74 = .ok (.iload 5, 2) := by decide +kernel
theorem dX9_planCostOf_76 : decode cX9_planCostOf 76 = .ok (.iadd, 1) := by decide +kernel
theorem dX9_planCostOf_77 : decode cX9_planCostOf 77 = .ok (.iaload, 1) := by decide +kernel
theorem dX9_planCostOf_78 : decode cX9_planCostOf 78 = .ok (.iload_n 3, 1) := by decide +kernel
theorem dX9_planCostOf_79 : decode cX9_planCostOf 79 = .ok (.if_icmp .ne 10, 3) := by decide +kernel
theorem dX9_planCostOf_82 : decode cX9_planCostOf 82 = .ok (.iconst 1, 1) := by decide +kernel
theorem dX9_planCostOf_83 : decode cX9_planCostOf 83 = .ok (.iload 5, 2) := by decide +kernel
theorem dX9_planCostOf_85 : decode cX9_planCostOf 85 = .ok (.ishl, 1) := by decide +kernel
theorem dX9_planCostOf_86 : decode cX9_planCostOf 86 = .ok (.goto 4, 3) := by decide +kernel
theorem dX9_planCostOf_89 : decode cX9_planCostOf 89 = .ok (.iconst 0, 1) := by decide +kernel
theorem dX9_planCostOf_90 : decode cX9_planCostOf 90 = .ok (.ior, 1) := by decide +kernel
theorem dX9_planCostOf_91 : decode cX9_planCostOf 91 = .ok (.istore 4, 2) := by decide +kernel
theorem dX9_planCostOf_93 : decode cX9_planCostOf 93 = .ok (.iinc 5 1, 3) := by decide +kernel
theorem dX9_planCostOf_96 : decode cX9_planCostOf 96 = .ok (.goto (-41), 3) := by decide +kernel
theorem dX9_planCostOf_99 : decode cX9_planCostOf 99 = .ok (.aload_n 0, 1) := by decide +kernel
theorem dX9_planCostOf_100 : decode cX9_planCostOf 100 = .ok (.iload 4, 2) := by decide +kernel
theorem dX9_planCostOf_102 : decode cX9_planCostOf 102 = .ok (.iload_n 3, 1) := by decide +kernel
theorem dX9_planCostOf_103 : decode cX9_planCostOf 103 = .ok (.invokevirtual 198, 3) := by decide +kernel
theorem dX9_planCostOf_106 : decode cX9_planCostOf 106 = .ok (.istore 5, 2) := by decide +kernel
theorem dX9_planCostOf_108 : decode cX9_planCostOf 108 = .ok (.iload 5, 2) := by decide +kernel
theorem dX9_planCostOf_110 : decode cX9_planCostOf 110 = .ok (.ldc 188, 2) := by decide +kernel
theorem dX9_planCostOf_112 : decode cX9_planCostOf 112 = .ok (.if_icmp .lt 6, 3) := by decide +kernel
theorem dX9_planCostOf_115 : decode cX9_planCostOf 115 = .ok (.bipush (-3), 2) := by decide +kernel
theorem dX9_planCostOf_117 : decode cX9_planCostOf 117 = .ok (.ireturn, 1) := by decide +kernel
theorem dX9_planCostOf_118 : decode cX9_planCostOf 118 = .ok (.iload_n 2, 1) := by decide +kernel
theorem dX9_planCostOf_119 : decode cX9_planCostOf 119 = .ok (.iload 5, 2) := by decide +kernel
theorem dX9_planCostOf_121 : decode cX9_planCostOf 121 = .ok (.iadd, 1) := by decide +kernel
theorem dX9_planCostOf_122 : decode cX9_planCostOf 122 = .ok (.istore_n 2, 1) := by decide +kernel
theorem dX9_planCostOf_123 : decode cX9_planCostOf 123 = .ok (.iinc 3 1, 3) := by decide +kernel
theorem dX9_planCostOf_126 : decode cX9_planCostOf 126 = .ok (.goto (-83), 3) := by decide +kernel
theorem dX9_planCostOf_129 : decode cX9_planCostOf 129 = .ok (.iload_n 2, 1) := by decide +kernel
theorem dX9_planCostOf_130 : decode cX9_planCostOf 130 = .ok (.ireturn, 1) := by decide +kernel
theorem dX9_planOf_0 : decode cX9_planOf 0 = .ok (.aload_n 0, 1) := by decide +kernel
theorem dX9_planOf_1 : decode cX9_planOf 1 = .ok (.invokevirtual 139, 3) := by decide +kernel
theorem dX9_planOf_4 : decode cX9_planOf 4 = .ok (.aload_n 0, 1) := by decide +kernel
theorem dX9_planOf_5 : decode cX9_planOf 5 = .ok (.getfield 92, 3) := by decide +kernel
theorem dX9_planOf_8 : decode cX9_planOf 8 = .ok (.iload_n 1, 1) := by decide +kernel
theorem dX9_planOf_9 : decode cX9_planOf 9 = .ok (.iaload, 1) := by decide +kernel
theorem dX9_planOf_10 : decode cX9_planOf 10 = .ok (.aload_n 0, 1) := by decide +kernel
theorem dX9_planOf_11 : decode cX9_planOf 11 = .ok (.getfield 107, 3) := by decide +kernel
theorem dX9_planOf_14 : decode cX9_planOf 14 = .ok (.if_icmp .ge 6, 3) := by decide +kernel
theorem dX9_planOf_17 : decode cX9_planOf 17 = .ok (.bipush (-3), 2) := by decide +kernel
theorem dX9_planOf_19 : decode cX9_planOf 19 = .ok (.ireturn, 1) := by decide +kernel
theorem dX9_planOf_20 : decode cX9_planOf 20 = .ok (.aload_n 0, 1) := by decide +kernel
theorem dX9_planOf_21 : decode cX9_planOf 21 = .ok (.iload_n 1, 1) := by decide +kernel
theorem dX9_planOf_22 : decode cX9_planOf 22 = .ok (.invokevirtual 214, 3) := by decide +kernel
theorem dX9_planOf_25 : decode cX9_planOf 25 = .ok (.istore_n 3, 1) := by decide +kernel
theorem dX9_planOf_26 : decode cX9_planOf 26 = .ok (.iload_n 2, 1) := by decide +kernel
theorem dX9_planOf_27 : decode cX9_planOf 27 = .ok (.ifCond .ne 15, 3) := by decide +kernel
theorem dX9_planOf_30 : decode cX9_planOf 30 = .ok (.iload_n 3, 1) := by decide +kernel
theorem dX9_planOf_31 : decode cX9_planOf 31 = .ok (.bipush (-3), 2) := by decide +kernel
theorem dX9_planOf_33 : decode cX9_planOf 33 = .ok (.if_icmp .ne 7, 3) := by decide +kernel
theorem dX9_planOf_36 : decode cX9_planOf 36 = .ok (.iconst 0, 1) := by decide +kernel
theorem dX9_planOf_37 : decode cX9_planOf 37 = .ok (.goto 4, 3) := by decide +kernel
theorem dX9_planOf_40 : decode cX9_planOf 40 = .ok (.iconst 1, 1) := by decide +kernel
theorem dX9_planOf_41 : decode cX9_planOf 41 = .ok (.ireturn, 1) := by decide +kernel
theorem dX9_planOf_42 : decode cX9_planOf 42 = .ok (.iconst 0, 1) := by decide +kernel
theorem dX9_planOf_43 : decode cX9_planOf 43 = .ok (.istore 4, 2) := by decide +kernel
theorem dX9_planOf_45 : decode cX9_planOf 45 = .ok (.iconst 0, 1) := by decide +kernel
theorem dX9_planOf_46 : decode cX9_planOf 46 = .ok (.istore 5, 2) := by decide +kernel
theorem dX9_planOf_48 : decode cX9_planOf 48 = .ok (.iload 5, 2) := by decide +kernel
theorem dX9_planOf_50 : decode cX9_planOf 50 = .ok (.aload_n 0, 1) := by decide +kernel
theorem dX9_planOf_51 : decode cX9_planOf 51 = .ok (.getfield 107, 3) := by decide +kernel
theorem dX9_planOf_54 : decode cX9_planOf 54 = .ok (.if_icmp .ge 41, 3) := by decide +kernel
theorem dX9_planOf_57 : decode cX9_planOf 57 = .ok (.iload 4, 2) := by decide +kernel
theorem dX9_planOf_59 : decode cX9_planOf 59 = .ok (.aload_n 0, 1) := by decide +kernel
theorem dX9_planOf_60 : decode cX9_planOf 60 = .ok (.getfield 95, 3) := by decide +kernel
theorem dX9_planOf_63 : decode cX9_planOf 63 = .ok (.bipush 60, 2) := by decide +kernel
theorem dX9_planOf_65 : decode cX9_planOf 65 = .ok (.iload_n 1, 1) := by decide +kernel
theorem dX9_planOf_66 : decode cX9_planOf 66 = .ok (.imul, 1) := by decide +kernel
theorem dX9_planOf_67 : decode cX9_planOf 67 = .ok (.iload 5, 2) := by decide +kernel
theorem dX9_planOf_69 : decode cX9_planOf 69 = .ok (.iadd, 1) := by decide +kernel
theorem dX9_planOf_70 : decode cX9_planOf 70 = .ok (.iaload, 1) := by decide +kernel
theorem dX9_planOf_71 : decode cX9_planOf 71 = .ok (.iconst (-1), 1) := by decide +kernel
theorem dX9_planOf_72 : decode cX9_planOf 72 = .ok (.if_icmp .ne 7, 3) := by decide +kernel
theorem dX9_planOf_75 : decode cX9_planOf 75 = .ok (.iconst 0, 1) := by decide +kernel
theorem dX9_planOf_76 : decode cX9_planOf 76 = .ok (.goto 10, 3) := by decide +kernel
theorem dX9_planOf_79 : decode cX9_planOf 79 = .ok (.aload_n 0, 1) := by decide +kernel
theorem dX9_planOf_80 : decode cX9_planOf 80 = .ok (.getfield 25, 3) := by decide +kernel
theorem dX9_planOf_83 : decode cX9_planOf 83 = .ok (.iload 5, 2) := by decide +kernel
theorem dX9_planOf_85 : decode cX9_planOf 85 = .ok (.iaload, 1) := by decide +kernel
theorem dX9_planOf_86 : decode cX9_planOf 86 = .ok (.iadd, 1) := by decide +kernel
theorem dX9_planOf_87 : decode cX9_planOf 87 = .ok (.istore 4, 2) := by decide +kernel
theorem dX9_planOf_89 : decode cX9_planOf 89 = .ok (.iinc 5 1, 3) := by decide +kernel
theorem dX9_planOf_92 : decode cX9_planOf 92 = .ok (.goto (-44), 3) := by decide +kernel
theorem dX9_planOf_95 : decode cX9_planOf 95 = .ok (.iload_n 3, 1) := by decide +kernel
theorem dX9_planOf_96 : decode cX9_planOf 96 = .ok (.bipush (-3), 2) := by decide +kernel
theorem dX9_planOf_98 : decode cX9_planOf 98 = .ok (.if_icmp .ne 8, 3) := by decide +kernel
theorem dX9_planOf_101 : decode cX9_planOf 101 = .ok (.bipush (-3), 2) := by decide +kernel
theorem dX9_planOf_103 : decode cX9_planOf 103 = .ok (.goto 14, 3) := by decide +kernel
theorem dX9_planOf_106 : decode cX9_planOf 106 = .ok (.iload_n 2, 1) := by decide +kernel
theorem dX9_planOf_107 : decode cX9_planOf 107 = .ok (.iconst 1, 1) := by decide +kernel
theorem dX9_planOf_108 : decode cX9_planOf 108 = .ok (.if_icmp .ne 8, 3) := by decide +kernel
theorem dX9_planOf_111 : decode cX9_planOf 111 = .ok (.iload 4, 2) := by decide +kernel
theorem dX9_planOf_113 : decode cX9_planOf 113 = .ok (.goto 4, 3) := by decide +kernel
theorem dX9_planOf_116 : decode cX9_planOf 116 = .ok (.iload_n 3, 1) := by decide +kernel
theorem dX9_planOf_117 : decode cX9_planOf 117 = .ok (.ireturn, 1) := by decide +kernel
theorem dX9_plan_0 : decode cX9_plan 0 = .ok (.iload_n 1, 1) := by decide +kernel
theorem dX9_plan_1 : decode cX9_plan 1 = .ok (.invokestatic 158, 3) := by decide +kernel
theorem dX9_plan_4 : decode cX9_plan 4 = .ok (.ifCond .eq 12, 3) := by decide +kernel
theorem dX9_plan_7 : decode cX9_plan 7 = .ok (.iload_n 2, 1) := by decide +kernel
theorem dX9_plan_8 : decode cX9_plan 8 = .ok (.iconst 0, 1) := by decide +kernel
theorem dX9_plan_9 : decode cX9_plan 9 = .ok (.iconst 2, 1) := by decide +kernel
theorem dX9_plan_10 : decode cX9_plan 10 = .ok (.invokestatic 103, 3) := by decide +kernel
theorem dX9_plan_13 : decode cX9_plan 13 = .ok (.ifCond .ne 6, 3) := by decide +kernel
theorem dX9_plan_16 : decode cX9_plan 16 = .ok (.bipush (-2), 2) := by decide +kernel
theorem dX9_plan_18 : decode cX9_plan 18 = .ok (.ireturn, 1) := by decide +kernel
theorem dX9_plan_19 : decode cX9_plan 19 = .ok (.aload_n 0, 1) := by decide +kernel
theorem dX9_plan_20 : decode cX9_plan 20 = .ok (.getfield 85, 3) := by decide +kernel
theorem dX9_plan_23 : decode cX9_plan 23 = .ok (.iload_n 1, 1) := by decide +kernel
theorem dX9_plan_24 : decode cX9_plan 24 = .ok (.baload, 1) := by decide +kernel
theorem dX9_plan_25 : decode cX9_plan 25 = .ok (.ifCond .eq 12, 3) := by decide +kernel
theorem dX9_plan_28 : decode cX9_plan 28 = .ok (.aload_n 0, 1) := by decide +kernel
theorem dX9_plan_29 : decode cX9_plan 29 = .ok (.iload_n 1, 1) := by decide +kernel
theorem dX9_plan_30 : decode cX9_plan 30 = .ok (.iload_n 2, 1) := by decide +kernel
theorem dX9_plan_31 : decode cX9_plan 31 = .ok (.invokevirtual 217, 3) := by decide +kernel
theorem dX9_plan_34 : decode cX9_plan 34 = .ok (.goto 8, 3) := by decide +kernel
theorem dX9_plan_37 : decode cX9_plan 37 = .ok (.aload_n 0, 1) := by decide +kernel
theorem dX9_plan_38 : decode cX9_plan 38 = .ok (.iconst 1, 1) := by decide +kernel
theorem dX9_plan_39 : decode cX9_plan 39 = .ok (.invokevirtual 161, 3) := by decide +kernel
theorem dX9_plan_42 : decode cX9_plan 42 = .ok (.ireturn, 1) := by decide +kernel
theorem dX9_askedOf_0 : decode cX9_askedOf 0 = .ok (.iconst 0, 1) := by decide +kernel
theorem dX9_askedOf_1 : decode cX9_askedOf 1 = .ok (.istore_n 3, 1) := by decide +kernel
theorem dX9_askedOf_2 : decode cX9_askedOf 2 = .ok (.iconst 0, 1) := by decide +kernel
theorem dX9_askedOf_3 : decode cX9_askedOf 3 = .ok (.istore 4, 2) := by decide +kernel
theorem dX9_askedOf_5 : decode cX9_askedOf 5 = .ok (.iload 4, 2) := by decide +kernel
theorem dX9_askedOf_7 : decode cX9_askedOf 7 = .ok (.aload_n 0, 1) := by decide +kernel
theorem dX9_askedOf_8 : decode cX9_askedOf 8 = .ok (.getfield 107, 3) := by decide +kernel
theorem dX9_askedOf_11 : decode cX9_askedOf 11 = .ok (.if_icmp .ge 42, 3) := by decide +kernel
theorem dX9_askedOf_14 : decode cX9_askedOf 14 = .ok (.aload_n 0, 1) := by decide +kernel
theorem dX9_askedOf_15 : decode cX9_askedOf 15 = .ok (.iload 4, 2) := by decide +kernel
theorem dX9_askedOf_17 : decode cX9_askedOf 17 = .ok (.iload_n 2, 1) := by decide +kernel
theorem dX9_askedOf_18 : decode cX9_askedOf 18 = .ok (.invokevirtual 173, 3) := by decide +kernel
theorem dX9_askedOf_21 : decode cX9_askedOf 21 = .ok (.istore 5, 2) := by decide +kernel
theorem dX9_askedOf_23 : decode cX9_askedOf 23 = .ok (.iload_n 3, 1) := by decide +kernel
theorem dX9_askedOf_24 : decode cX9_askedOf 24 = .ok (.iload 5, 2) := by decide +kernel
theorem dX9_askedOf_26 : decode cX9_askedOf 26 = .ok (.bipush (-3), 2) := by decide +kernel
theorem dX9_askedOf_28 : decode cX9_askedOf 28 = .ok (.if_icmp .eq 16, 3) := by decide +kernel
theorem dX9_askedOf_31 : decode cX9_askedOf 31 = .ok (.iload 5, 2) := by decide +kernel
theorem dX9_askedOf_33 : decode cX9_askedOf 33 = .ok (.iload_n 1, 1) := by decide +kernel
theorem dX9_askedOf_34 : decode cX9_askedOf 34 = .ok (.invokestatic 119, 3) := by decide +kernel
theorem dX9_askedOf_37 : decode cX9_askedOf 37 = .ok (.ifCond .eq 7, 3) := by decide +kernel
theorem dX9_askedOf_40 : decode cX9_askedOf 40 = .ok (.iconst 1, 1) := by decide +kernel
theorem dX9_askedOf_41 : decode cX9_askedOf 41 = .ok (.goto 4, 3) := by decide +kernel
theorem dX9_askedOf_44 : decode cX9_askedOf 44 = .ok (.iconst 0, 1) := by decide +kernel
theorem dX9_askedOf_45 : decode cX9_askedOf 45 = .ok (.iadd, 1) := by decide +kernel
theorem dX9_askedOf_46 : decode cX9_askedOf 46 = .ok (.istore_n 3, 1) := by decide +kernel
theorem dX9_askedOf_47 : decode cX9_askedOf 47 = .ok (.iinc 4 1, 3) := by decide +kernel
theorem dX9_askedOf_50 : decode cX9_askedOf 50 = .ok (.goto (-45), 3) := by decide +kernel
theorem dX9_askedOf_53 : decode cX9_askedOf 53 = .ok (.iload_n 3, 1) := by decide +kernel
theorem dX9_askedOf_54 : decode cX9_askedOf 54 = .ok (.ireturn, 1) := by decide +kernel
theorem dX9_asked_0 : decode cX9_asked 0 = .ok (.iload_n 1, 1) := by decide +kernel
theorem dX9_asked_1 : decode cX9_asked 1 = .ok (.invokestatic 152, 3) := by decide +kernel
theorem dX9_asked_4 : decode cX9_asked 4 = .ok (.ifCond .eq 10, 3) := by decide +kernel
theorem dX9_asked_7 : decode cX9_asked 7 = .ok (.iload_n 2, 1) := by decide +kernel
theorem dX9_asked_8 : decode cX9_asked 8 = .ok (.invokestatic 155, 3) := by decide +kernel
theorem dX9_asked_11 : decode cX9_asked 11 = .ok (.ifCond .ne 6, 3) := by decide +kernel
theorem dX9_asked_14 : decode cX9_asked 14 = .ok (.bipush (-2), 2) := by decide +kernel
theorem dX9_asked_16 : decode cX9_asked 16 = .ok (.ireturn, 1) := by decide +kernel
theorem dX9_asked_17 : decode cX9_asked 17 = .ok (.aload_n 0, 1) := by decide +kernel
theorem dX9_asked_18 : decode cX9_asked 18 = .ok (.invokevirtual 139, 3) := by decide +kernel
theorem dX9_asked_21 : decode cX9_asked 21 = .ok (.aload_n 0, 1) := by decide +kernel
theorem dX9_asked_22 : decode cX9_asked 22 = .ok (.iload_n 1, 1) := by decide +kernel
theorem dX9_asked_23 : decode cX9_asked 23 = .ok (.iload_n 2, 1) := by decide +kernel
theorem dX9_asked_24 : decode cX9_asked 24 = .ok (.invokevirtual 220, 3) := by decide +kernel
theorem dX9_asked_27 : decode cX9_asked 27 = .ok (.ireturn, 1) := by decide +kernel
theorem dX9_crowdOf_0 : decode cX9_crowdOf 0 = .ok (.aload_n 0, 1) := by decide +kernel
theorem dX9_crowdOf_1 : decode cX9_crowdOf 1 = .ok (.invokevirtual 139, 3) := by decide +kernel
theorem dX9_crowdOf_4 : decode cX9_crowdOf 4 = .ok (.iconst (-1), 1) := by decide +kernel
theorem dX9_crowdOf_5 : decode cX9_crowdOf 5 = .ok (.istore_n 2, 1) := by decide +kernel
theorem dX9_crowdOf_6 : decode cX9_crowdOf 6 = .ok (.iconst 0, 1) := by decide +kernel
theorem dX9_crowdOf_7 : decode cX9_crowdOf 7 = .ok (.istore_n 3, 1) := by decide +kernel
theorem dX9_crowdOf_8 : decode cX9_crowdOf 8 = .ok (.iconst 0, 1) := by decide +kernel
theorem dX9_crowdOf_9 : decode cX9_crowdOf 9 = .ok (.istore 4, 2) := by decide +kernel
theorem dX9_crowdOf_11 : decode cX9_crowdOf 11 = .ok (.iload 4, 2) := by decide +kernel
theorem dX9_crowdOf_13 : decode cX9_crowdOf 13 = .ok (.bipush 64, 2) := by decide +kernel
theorem dX9_crowdOf_15 : decode cX9_crowdOf 15 = .ok (.if_icmp .ge 51, 3) := by decide +kernel
theorem dX9_crowdOf_18 : decode cX9_crowdOf 18 = .ok (.aload_n 0, 1) := by decide +kernel
theorem dX9_crowdOf_19 : decode cX9_crowdOf 19 = .ok (.iload 4, 2) := by decide +kernel
theorem dX9_crowdOf_21 : decode cX9_crowdOf 21 = .ok (.bipush 8, 2) := by decide +kernel
theorem dX9_crowdOf_23 : decode cX9_crowdOf 23 = .ok (.idiv, 1) := by decide +kernel
theorem dX9_crowdOf_24 : decode cX9_crowdOf 24 = .ok (.iload 4, 2) := by decide +kernel
theorem dX9_crowdOf_26 : decode cX9_crowdOf 26 = .ok (.bipush 8, 2) := by decide +kernel
theorem dX9_crowdOf_28 : decode cX9_crowdOf 28 = .ok (.irem, 1) := by decide +kernel
theorem dX9_crowdOf_29 : decode cX9_crowdOf 29 = .ok (.invokevirtual 220, 3) := by decide +kernel
theorem dX9_crowdOf_32 : decode cX9_crowdOf 32 = .ok (.istore 5, 2) := by decide +kernel
theorem dX9_crowdOf_34 : decode cX9_crowdOf 34 = .ok (.iload 5, 2) := by decide +kernel
theorem dX9_crowdOf_36 : decode cX9_crowdOf 36 = .ok (.iload_n 3, 1) := by decide +kernel
theorem dX9_crowdOf_37 : decode cX9_crowdOf 37 = .ok (.if_icmp .le 8, 3) := by decide +kernel
theorem dX9_crowdOf_40 : decode cX9_crowdOf 40 = .ok (.iload 4, 2) := by decide +kernel
theorem dX9_crowdOf_42 : decode cX9_crowdOf 42 = .ok (.goto 4, 3) := by decide +kernel
theorem dX9_crowdOf_45 : decode cX9_crowdOf 45 = .ok (.iload_n 2, 1) := by decide +kernel
theorem dX9_crowdOf_46 : decode cX9_crowdOf 46 = .ok (.istore_n 2, 1) := by decide +kernel
theorem dX9_crowdOf_47 : decode cX9_crowdOf 47 = .ok (.iload 5, 2) := by decide +kernel
theorem dX9_crowdOf_49 : decode cX9_crowdOf 49 = .ok (.iload_n 3, 1) := by decide +kernel
theorem dX9_crowdOf_50 : decode cX9_crowdOf 50 = .ok (.if_icmp .le 8, 3) := by decide +kernel
theorem dX9_crowdOf_53 : decode cX9_crowdOf 53 = .ok (.iload 5, 2) := by decide +kernel
theorem dX9_crowdOf_55 : decode cX9_crowdOf 55 = .ok (.goto 4, 3) := by decide +kernel
theorem dX9_crowdOf_58 : decode cX9_crowdOf 58 = .ok (.iload_n 3, 1) := by decide +kernel
theorem dX9_crowdOf_59 : decode cX9_crowdOf 59 = .ok (.istore_n 3, 1) := by decide +kernel
theorem dX9_crowdOf_60 : decode cX9_crowdOf 60 = .ok (.iinc 4 1, 3) := by decide +kernel
theorem dX9_crowdOf_63 : decode cX9_crowdOf 63 = .ok (.goto (-52), 3) := by decide +kernel
theorem dX9_crowdOf_66 : decode cX9_crowdOf 66 = .ok (.iload_n 1, 1) := by decide +kernel
theorem dX9_crowdOf_67 : decode cX9_crowdOf 67 = .ok (.iconst 2, 1) := by decide +kernel
theorem dX9_crowdOf_68 : decode cX9_crowdOf 68 = .ok (.if_icmp .ne 7, 3) := by decide +kernel
theorem dX9_crowdOf_71 : decode cX9_crowdOf 71 = .ok (.iload_n 3, 1) := by decide +kernel
theorem dX9_crowdOf_72 : decode cX9_crowdOf 72 = .ok (.goto 27, 3) := by decide +kernel
theorem dX9_crowdOf_75 : decode cX9_crowdOf 75 = .ok (.iload_n 2, 1) := by decide +kernel
theorem dX9_crowdOf_76 : decode cX9_crowdOf 76 = .ok (.iconst (-1), 1) := by decide +kernel
theorem dX9_crowdOf_77 : decode cX9_crowdOf 77 = .ok (.if_icmp .ne 7, 3) := by decide +kernel
theorem dX9_crowdOf_80 : decode cX9_crowdOf 80 = .ok (.iconst (-1), 1) := by decide +kernel
theorem dX9_crowdOf_81 : decode cX9_crowdOf 81 = .ok (.goto 18, 3) := by decide +kernel
theorem dX9_crowdOf_84 : decode cX9_crowdOf 84 = .ok (.iload_n 1, 1) := by decide +kernel
theorem dX9_crowdOf_85 : decode cX9_crowdOf 85 = .ok (.ifCond .ne 10, 3) := by decide +kernel
theorem dX9_crowdOf_88 : decode cX9_crowdOf 88 = .ok (.iload_n 2, 1) := by decide +kernel
theorem dX9_crowdOf_89 : decode cX9_crowdOf 89 = .ok (.bipush 8, 2) := by decide +kernel
theorem dX9_crowdOf_91 : decode cX9_crowdOf 91 = .ok (.idiv, 1) := by decide +kernel
theorem dX9_crowdOf_92 : decode cX9_crowdOf 92 = .ok (.goto 7, 3) := by decide +kernel
theorem dX9_crowdOf_95 : decode cX9_crowdOf 95 = .ok (.iload_n 2, 1) := by decide +kernel
theorem dX9_crowdOf_96 : decode cX9_crowdOf 96 = .ok (.bipush 8, 2) := by decide +kernel
theorem dX9_crowdOf_98 : decode cX9_crowdOf 98 = .ok (.irem, 1) := by decide +kernel
theorem dX9_crowdOf_99 : decode cX9_crowdOf 99 = .ok (.ireturn, 1) := by decide +kernel
theorem dX9_crowd_0 : decode cX9_crowd 0 = .ok (.iload_n 1, 1) := by decide +kernel
theorem dX9_crowd_1 : decode cX9_crowd 1 = .ok (.iconst 0, 1) := by decide +kernel
theorem dX9_crowd_2 : decode cX9_crowd 2 = .ok (.iconst 2, 1) := by decide +kernel
theorem dX9_crowd_3 : decode cX9_crowd 3 = .ok (.invokestatic 103, 3) := by decide +kernel
theorem dX9_crowd_6 : decode cX9_crowd 6 = .ok (.ifCond .eq 11, 3) := by decide +kernel
theorem dX9_crowd_9 : decode cX9_crowd 9 = .ok (.aload_n 0, 1) := by decide +kernel
theorem dX9_crowd_10 : decode cX9_crowd 10 = .ok (.iload_n 1, 1) := by decide +kernel
theorem dX9_crowd_11 : decode cX9_crowd 11 = .ok (.invokevirtual 223, 3) := by decide +kernel
theorem dX9_crowd_14 : decode cX9_crowd 14 = .ok (.goto 5, 3) := by decide +kernel
theorem dX9_crowd_17 : decode cX9_crowd 17 = .ok (.bipush (-2), 2) := by decide +kernel
theorem dX9_crowd_19 : decode cX9_crowd 19 = .ok (.ireturn, 1) := by decide +kernel
theorem dX9_likenessOf_0 : decode cX9_likenessOf 0 = .ok (.aload_n 0, 1) := by decide +kernel
theorem dX9_likenessOf_1 : decode cX9_likenessOf 1 = .ok (.iload_n 1, 1) := by decide +kernel
theorem dX9_likenessOf_2 : decode cX9_likenessOf 2 = .ok (.iload_n 2, 1) := by decide +kernel
theorem dX9_likenessOf_3 : decode cX9_likenessOf 3 = .ok (.invokevirtual 173, 3) := by decide +kernel
theorem dX9_likenessOf_6 : decode cX9_likenessOf 6 = .ok (.istore_n 3, 1) := by decide +kernel
theorem dX9_likenessOf_7 : decode cX9_likenessOf 7 = .ok (.iload_n 3, 1) := by decide +kernel
theorem dX9_likenessOf_8 : decode cX9_likenessOf 8 = .ok (.bipush (-3), 2) := by decide +kernel
theorem dX9_likenessOf_10 : decode cX9_likenessOf 10 = .ok (.if_icmp .ne 6, 3) := by decide +kernel
theorem dX9_likenessOf_13 : decode cX9_likenessOf 13 = .ok (.bipush (-3), 2) := by decide +kernel
theorem dX9_likenessOf_15 : decode cX9_likenessOf 15 = .ok (.ireturn, 1) := by decide +kernel
theorem dX9_likenessOf_16 : decode cX9_likenessOf 16 = .ok (.aload_n 0, 1) := by decide +kernel
theorem dX9_likenessOf_17 : decode cX9_likenessOf 17 = .ok (.getfield 52, 3) := by decide +kernel
theorem dX9_likenessOf_20 : decode cX9_likenessOf 20 = .ok (.iload_n 2, 1) := by decide +kernel
theorem dX9_likenessOf_21 : decode cX9_likenessOf 21 = .ok (.iaload, 1) := by decide +kernel
theorem dX9_likenessOf_22 : decode cX9_likenessOf 22 = .ok (.aload_n 0, 1) := by decide +kernel
theorem dX9_likenessOf_23 : decode cX9_likenessOf 23 = .ok (.getfield 22, 3) := by decide +kernel
theorem dX9_likenessOf_26 : decode cX9_likenessOf 26 = .ok (.iload_n 1, 1) := by decide +kernel
theorem dX9_likenessOf_27 : decode cX9_likenessOf 27 = .ok (.iaload, 1) := by decide +kernel
theorem dX9_likenessOf_28 : decode cX9_likenessOf 28 = .ok (.if_icmp .eq 12, 3) := by decide +kernel
theorem dX9_likenessOf_31 : decode cX9_likenessOf 31 = .ok (.aload_n 0, 1) := by decide +kernel
theorem dX9_likenessOf_32 : decode cX9_likenessOf 32 = .ok (.iload_n 1, 1) := by decide +kernel
theorem dX9_likenessOf_33 : decode cX9_likenessOf 33 = .ok (.iload_n 2, 1) := by decide +kernel
theorem dX9_likenessOf_34 : decode cX9_likenessOf 34 = .ok (.invokevirtual 167, 3) := by decide +kernel
theorem dX9_likenessOf_37 : decode cX9_likenessOf 37 = .ok (.ifCond .eq 7, 3) := by decide +kernel
theorem dX9_likenessOf_40 : decode cX9_likenessOf 40 = .ok (.iconst 1, 1) := by decide +kernel
theorem dX9_likenessOf_41 : decode cX9_likenessOf 41 = .ok (.goto 4, 3) := by decide +kernel
theorem dX9_likenessOf_44 : decode cX9_likenessOf 44 = .ok (.iconst 0, 1) := by decide +kernel
theorem dX9_likenessOf_45 : decode cX9_likenessOf 45 = .ok (.istore 4, 2) := by decide +kernel
theorem dX9_likenessOf_47 : decode cX9_likenessOf 47 = .ok (.aload_n 0, 1) := by decide +kernel
theorem dX9_likenessOf_48 : decode cX9_likenessOf 48 = .ok (.getfield 37, 3) := by decide +kernel
theorem dX9_likenessOf_51 : decode cX9_likenessOf 51 = .ok (.aload_n 0, 1) := by decide +kernel
theorem dX9_likenessOf_52 : decode cX9_likenessOf 52 = .ok (.getfield 16, 3) := by decide +kernel
theorem dX9_likenessOf_55 : decode cX9_likenessOf 55 = .ok (.iload_n 1, 1) := by decide +kernel
theorem dX9_likenessOf_56 : decode cX9_likenessOf 56 = .ok (.iaload, 1) := by decide +kernel
theorem dX9_likenessOf_57 : decode cX9_likenessOf 57 = .ok (.iaload, 1) := by decide +kernel
theorem dX9_likenessOf_58 : decode cX9_likenessOf 58 = .ok (.iconst 1, 1) := by decide +kernel
theorem dX9_likenessOf_59 : decode cX9_likenessOf 59 = .ok (.if_icmp .ne 7, 3) := by decide +kernel
theorem dX9_likenessOf_62 : decode cX9_likenessOf 62 = .ok (.iconst 4, 1) := by decide +kernel
theorem dX9_likenessOf_63 : decode cX9_likenessOf 63 = .ok (.goto 4, 3) := by decide +kernel
theorem dX9_likenessOf_66 : decode cX9_likenessOf 66 = .ok (.iconst 0, 1) := by decide +kernel
theorem dX9_likenessOf_67 : decode cX9_likenessOf 67 = .ok (.iload 4, 2) := by decide +kernel
theorem dX9_likenessOf_69 : decode cX9_likenessOf 69 = .ok (.ifCond .eq 7, 3) := by decide +kernel
theorem dX9_likenessOf_72 : decode cX9_likenessOf 72 = .ok (.iconst 3, 1) := by decide +kernel
theorem dX9_likenessOf_73 : decode cX9_likenessOf 73 = .ok (.goto 4, 3) := by decide +kernel
theorem dX9_likenessOf_76 : decode cX9_likenessOf 76 = .ok (.iconst 0, 1) := by decide +kernel
theorem dX9_likenessOf_77 : decode cX9_likenessOf 77 = .ok (.iadd, 1) := by decide +kernel
theorem dX9_likenessOf_78 : decode cX9_likenessOf 78 = .ok (.iconst 3, 1) := by decide +kernel
theorem dX9_likenessOf_79 : decode cX9_likenessOf 79 = .ok (.iload_n 3, 1) := by decide +kernel
theorem dX9_likenessOf_80 : decode cX9_likenessOf 80 = .ok (.invokestatic 164, 3) := by decide +kernel
theorem dX9_likenessOf_83 : decode cX9_likenessOf 83 = .ok (.imul, 1) := by decide +kernel
theorem dX9_likenessOf_84 : decode cX9_likenessOf 84 = .ok (.aload_n 0, 1) := by decide +kernel
theorem dX9_likenessOf_85 : decode cX9_likenessOf 85 = .ok (.getfield 28, 3) := by decide +kernel
theorem dX9_likenessOf_88 : decode cX9_likenessOf 88 = .ok (.iload_n 1, 1) := by decide +kernel
theorem dX9_likenessOf_89 : decode cX9_likenessOf 89 = .ok (.iaload, 1) := by decide +kernel
theorem dX9_likenessOf_90 : decode cX9_likenessOf 90 = .ok (.invokestatic 164, 3) := by decide +kernel
theorem dX9_likenessOf_93 : decode cX9_likenessOf 93 = .ok (.idiv, 1) := by decide +kernel
theorem dX9_likenessOf_94 : decode cX9_likenessOf 94 = .ok (.iadd, 1) := by decide +kernel
theorem dX9_likenessOf_95 : decode cX9_likenessOf 95 = .ok (.ireturn, 1) := by decide +kernel
theorem dX9_likeness_0 : decode cX9_likeness 0 = .ok (.aload_n 0, 1) := by decide +kernel
theorem dX9_likeness_1 : decode cX9_likeness 1 = .ok (.iload_n 1, 1) := by decide +kernel
theorem dX9_likeness_2 : decode cX9_likeness 2 = .ok (.invokevirtual 142, 3) := by decide +kernel
theorem dX9_likeness_5 : decode cX9_likeness 5 = .ok (.ifCond .eq 19, 3) := by decide +kernel
theorem dX9_likeness_8 : decode cX9_likeness 8 = .ok (.iload_n 2, 1) := by decide +kernel
theorem dX9_likeness_9 : decode cX9_likeness 9 = .ok (.invokestatic 155, 3) := by decide +kernel
theorem dX9_likeness_12 : decode cX9_likeness 12 = .ok (.ifCond .eq 12, 3) := by decide +kernel
theorem dX9_likeness_15 : decode cX9_likeness 15 = .ok (.aload_n 0, 1) := by decide +kernel
theorem dX9_likeness_16 : decode cX9_likeness 16 = .ok (.iload_n 1, 1) := by decide +kernel
theorem dX9_likeness_17 : decode cX9_likeness 17 = .ok (.iload_n 2, 1) := by decide +kernel
theorem dX9_likeness_18 : decode cX9_likeness 18 = .ok (.invokevirtual 226, 3) := by decide +kernel
theorem dX9_likeness_21 : decode cX9_likeness 21 = .ok (.goto 5, 3) := by decide +kernel
theorem dX9_likeness_24 : decode cX9_likeness 24 = .ok (.bipush (-2), 2) := by decide +kernel
theorem dX9_likeness_26 : decode cX9_likeness 26 = .ok (.ireturn, 1) := by decide +kernel
theorem dX9_oddsOf_0 : decode cX9_oddsOf 0 = .ok (.aload_n 0, 1) := by decide +kernel
theorem dX9_oddsOf_1 : decode cX9_oddsOf 1 = .ok (.iload_n 1, 1) := by decide +kernel
theorem dX9_oddsOf_2 : decode cX9_oddsOf 2 = .ok (.iload_n 2, 1) := by decide +kernel
theorem dX9_oddsOf_3 : decode cX9_oddsOf 3 = .ok (.invokevirtual 226, 3) := by decide +kernel
theorem dX9_oddsOf_6 : decode cX9_oddsOf 6 = .ok (.istore 4, 2) := by decide +kernel
theorem dX9_oddsOf_8 : decode cX9_oddsOf 8 = .ok (.iload 4, 2) := by decide +kernel
theorem dX9_oddsOf_10 : decode cX9_oddsOf 10 = .ok (.bipush (-3), 2) := by decide +kernel
theorem dX9_oddsOf_12 : decode cX9_oddsOf 12 = .ok (.if_icmp .ne 9, 3) := by decide +kernel
theorem dX9_oddsOf_15 : decode cX9_oddsOf 15 = .ok (.bipush (-3), 2) := by decide +kernel
theorem dX9_oddsOf_17 : decode cX9_oddsOf 17 = .ok (.invokestatic 229, 3) := by decide +kernel
theorem dX9_oddsOf_20 : decode cX9_oddsOf 20 = .ok (.lreturn, 1) := by decide +kernel
theorem dX9_oddsOf_21 : decode cX9_oddsOf 21 = .ok (.aload_n 0, 1) := by decide +kernel
theorem dX9_oddsOf_22 : decode cX9_oddsOf 22 = .ok (.iload_n 1, 1) := by decide +kernel
theorem dX9_oddsOf_23 : decode cX9_oddsOf 23 = .ok (.iload_n 2, 1) := by decide +kernel
theorem dX9_oddsOf_24 : decode cX9_oddsOf 24 = .ok (.invokevirtual 173, 3) := by decide +kernel
theorem dX9_oddsOf_27 : decode cX9_oddsOf 27 = .ok (.istore 5, 2) := by decide +kernel
theorem dX9_oddsOf_29 : decode cX9_oddsOf 29 = .ok (.lconst 1, 1) := by decide +kernel
theorem dX9_oddsOf_30 : decode cX9_oddsOf 30 = .ok (.lstore 6, 2) := by decide +kernel
theorem dX9_oddsOf_32 : decode cX9_oddsOf 32 = .ok (.lconst 1, 1) := by decide +kernel
theorem dX9_oddsOf_33 : decode cX9_oddsOf 33 = .ok (.lstore 8, 2) := by decide +kernel
theorem dX9_oddsOf_35 : decode cX9_oddsOf 35 = .ok (.iconst 0, 1) := by decide +kernel
theorem dX9_oddsOf_36 : decode cX9_oddsOf 36 = .ok (.istore 10, 2) := by decide +kernel
theorem dX9_oddsOf_38 : decode cX9_oddsOf 38 = .ok (.iload 10, 2) := by decide +kernel
theorem dX9_oddsOf_40 : decode cX9_oddsOf 40 = .ok (.bipush 8, 2) := by decide +kernel
theorem dX9_oddsOf_42 : decode cX9_oddsOf 42 = .ok (.if_icmp .ge 54, 3) := by decide +kernel
theorem dX9_oddsOf_45 : decode cX9_oddsOf 45 = .ok (.iload 5, 2) := by decide +kernel
theorem dX9_oddsOf_47 : decode cX9_oddsOf 47 = .ok (.iload 10, 2) := by decide +kernel
theorem dX9_oddsOf_49 : decode cX9_oddsOf 49 = .ok (.invokestatic 119, 3) := by decide +kernel
theorem dX9_oddsOf_52 : decode cX9_oddsOf 52 = .ok (.ifCond .eq 38, 3) := by decide +kernel
theorem dX9_oddsOf_55 : decode cX9_oddsOf 55 = .ok (.iload 4, 2) := by decide +kernel
theorem dX9_oddsOf_57 : decode cX9_oddsOf 57 = .ok (.aload_n 0, 1) := by decide +kernel
theorem dX9_oddsOf_58 : decode cX9_oddsOf 58 = .ok (.getfield 55, 3) := by decide +kernel
theorem dX9_oddsOf_61 : decode cX9_oddsOf 61 = .ok (.iconst 3, 1) := by decide +kernel
theorem dX9_oddsOf_62 : decode cX9_oddsOf 62 = .ok (.iaload, 1) := by decide +kernel
theorem dX9_oddsOf_63 : decode cX9_oddsOf 63 = .ok (.if_icmp .ge 27, 3) := by decide +kernel
theorem dX9_oddsOf_66 : decode cX9_oddsOf 66 = .ok (.lload 6, 2) := by decide +kernel
theorem dX9_oddsOf_68 : decode cX9_oddsOf 68 = .ok (.bipush 16, 2) := by decide +kernel
theorem dX9_oddsOf_70 : decode cX9_oddsOf 70 = .ok (.aload_n 0, 1) := by decide +kernel
theorem dX9_oddsOf_71 : decode cX9_oddsOf 71 = .ok (.getfield 49, 3) := by decide +kernel
theorem dX9_oddsOf_74 : decode cX9_oddsOf 74 = .ok (.iload 10, 2) := by decide +kernel
theorem dX9_oddsOf_76 : decode cX9_oddsOf 76 = .ok (.iaload, 1) := by decide +kernel
theorem dX9_oddsOf_77 : decode cX9_oddsOf 77 = .ok (.isub, 1) := by decide +kernel
theorem dX9_oddsOf_78 : decode cX9_oddsOf 78 = .ok (.i2l, 1) := by decide +kernel
theorem dX9_oddsOf_79 : decode cX9_oddsOf 79 = .ok (.lmul, 1) := by decide +kernel
theorem dX9_oddsOf_80 : decode cX9_oddsOf 80 = .ok (.lstore 6, 2) := by decide +kernel
theorem dX9_oddsOf_82 : decode cX9_oddsOf 82 = .ok (.lload 8, 2) := by decide +kernel
theorem dX9_oddsOf_84 : decode cX9_oddsOf 84 = .ok (.ldc2_w 233, 3) := by decide +kernel
theorem dX9_oddsOf_87 : decode cX9_oddsOf 87 = .ok (.lmul, 1) := by decide +kernel
theorem dX9_oddsOf_88 : decode cX9_oddsOf 88 = .ok (.lstore 8, 2) := by decide +kernel
theorem dX9_oddsOf_90 : decode cX9_oddsOf 90 = .ok (.iinc 10 1, 3) := by decide +kernel
theorem dX9_oddsOf_93 : decode cX9_oddsOf 93 = .ok (.goto (-55), 3) := by decide +kernel
theorem dX9_oddsOf_96 : decode cX9_oddsOf 96 = .ok (.lload 6, 2) := by decide +kernel
theorem dX9_oddsOf_98 : decode cX9_oddsOf 98 = .ok (.lload 8, 2) := by decide +kernel
theorem dX9_oddsOf_100 : decode cX9_oddsOf 100 = .ok (.iload_n 3, 1) := by decide +kernel
theorem dX9_oddsOf_101 : decode cX9_oddsOf 101 = .ok (.invokestatic 235, 3) := by decide +kernel
theorem dX9_oddsOf_104 : decode cX9_oddsOf 104 = .ok (.lreturn, 1) := by decide +kernel
theorem dX9_odds_0 : decode cX9_odds 0 = .ok (.aload_n 0, 1) := by decide +kernel
theorem dX9_odds_1 : decode cX9_odds 1 = .ok (.iload_n 1, 1) := by decide +kernel
theorem dX9_odds_2 : decode cX9_odds 2 = .ok (.invokevirtual 142, 3) := by decide +kernel
theorem dX9_odds_5 : decode cX9_odds 5 = .ok (.ifCond .eq 29, 3) := by decide +kernel
theorem dX9_odds_8 : decode cX9_odds 8 = .ok (.iload_n 2, 1) := by decide +kernel
theorem dX9_odds_9 : decode cX9_odds 9 = .ok (.invokestatic 155, 3) := by decide +kernel
theorem dX9_odds_12 : decode cX9_odds 12 = .ok (.ifCond .eq 22, 3) := by decide +kernel
theorem dX9_odds_15 : decode cX9_odds 15 = .ok (.iload_n 3, 1) := by decide +kernel
theorem dX9_odds_16 : decode cX9_odds 16 = .ok (.iconst 0, 1) := by decide +kernel
theorem dX9_odds_17 : decode cX9_odds 17 = .ok (.iconst 1, 1) := by decide +kernel
theorem dX9_odds_18 : decode cX9_odds 18 = .ok (.invokestatic 103, 3) := by decide +kernel
theorem dX9_odds_21 : decode cX9_odds 21 = .ok (.ifCond .eq 13, 3) := by decide +kernel
theorem dX9_odds_24 : decode cX9_odds 24 = .ok (.aload_n 0, 1) := by decide +kernel
theorem dX9_odds_25 : decode cX9_odds 25 = .ok (.iload_n 1, 1) := by decide +kernel
theorem dX9_odds_26 : decode cX9_odds 26 = .ok (.iload_n 2, 1) := by decide +kernel
theorem dX9_odds_27 : decode cX9_odds 27 = .ok (.iload_n 3, 1) := by decide +kernel
theorem dX9_odds_28 : decode cX9_odds 28 = .ok (.invokevirtual 239, 3) := by decide +kernel
theorem dX9_odds_31 : decode cX9_odds 31 = .ok (.goto 8, 3) := by decide +kernel
theorem dX9_odds_34 : decode cX9_odds 34 = .ok (.bipush (-2), 2) := by decide +kernel
theorem dX9_odds_36 : decode cX9_odds 36 = .ok (.invokestatic 229, 3) := by decide +kernel
theorem dX9_odds_39 : decode cX9_odds 39 = .ok (.lreturn, 1) := by decide +kernel
theorem dX9_seen_0 : decode cX9_seen 0 = .ok (.iload_n 1, 1) := by decide +kernel
theorem dX9_seen_1 : decode cX9_seen 1 = .ok (.invokestatic 152, 3) := by decide +kernel
theorem dX9_seen_4 : decode cX9_seen 4 = .ok (.ifCond .eq 19, 3) := by decide +kernel
theorem dX9_seen_7 : decode cX9_seen 7 = .ok (.iload_n 2, 1) := by decide +kernel
theorem dX9_seen_8 : decode cX9_seen 8 = .ok (.iconst 0, 1) := by decide +kernel
theorem dX9_seen_9 : decode cX9_seen 9 = .ok (.iconst 5, 1) := by decide +kernel
theorem dX9_seen_10 : decode cX9_seen 10 = .ok (.invokestatic 103, 3) := by decide +kernel
theorem dX9_seen_13 : decode cX9_seen 13 = .ok (.ifCond .eq 10, 3) := by decide +kernel
theorem dX9_seen_16 : decode cX9_seen 16 = .ok (.iload_n 3, 1) := by decide +kernel
theorem dX9_seen_17 : decode cX9_seen 17 = .ok (.invokestatic 155, 3) := by decide +kernel
theorem dX9_seen_20 : decode cX9_seen 20 = .ok (.ifCond .ne 6, 3) := by decide +kernel
theorem dX9_seen_23 : decode cX9_seen 23 = .ok (.bipush (-2), 2) := by decide +kernel
theorem dX9_seen_25 : decode cX9_seen 25 = .ok (.ireturn, 1) := by decide +kernel
theorem dX9_seen_26 : decode cX9_seen 26 = .ok (.aload_n 0, 1) := by decide +kernel
theorem dX9_seen_27 : decode cX9_seen 27 = .ok (.getfield 243, 3) := by decide +kernel
theorem dX9_seen_30 : decode cX9_seen 30 = .ok (.bipush 10, 2) := by decide +kernel
theorem dX9_seen_32 : decode cX9_seen 32 = .ok (.if_icmp .ne 6, 3) := by decide +kernel
theorem dX9_seen_35 : decode cX9_seen 35 = .ok (.bipush (-4), 2) := by decide +kernel
theorem dX9_seen_37 : decode cX9_seen 37 = .ok (.ireturn, 1) := by decide +kernel
theorem dX9_seen_38 : decode cX9_seen 38 = .ok (.aload_n 0, 1) := by decide +kernel
theorem dX9_seen_39 : decode cX9_seen 39 = .ok (.getfield 70, 3) := by decide +kernel
theorem dX9_seen_42 : decode cX9_seen 42 = .ok (.aload_n 0, 1) := by decide +kernel
theorem dX9_seen_43 : decode cX9_seen 43 = .ok (.getfield 243, 3) := by decide +kernel
theorem dX9_seen_46 : decode cX9_seen 46 = .ok (.iload_n 1, 1) := by decide +kernel
theorem dX9_seen_47 : decode cX9_seen 47 = .ok (.iastore, 1) := by decide +kernel
theorem dX9_seen_48 : decode cX9_seen 48 = .ok (.aload_n 0, 1) := by decide +kernel
theorem dX9_seen_49 : decode cX9_seen 49 = .ok (.getfield 73, 3) := by decide +kernel
theorem dX9_seen_52 : decode cX9_seen 52 = .ok (.aload_n 0, 1) := by decide +kernel
theorem dX9_seen_53 : decode cX9_seen 53 = .ok (.getfield 243, 3) := by decide +kernel
theorem dX9_seen_56 : decode cX9_seen 56 = .ok (.iload_n 2, 1) := by decide +kernel
theorem dX9_seen_57 : decode cX9_seen 57 = .ok (.iastore, 1) := by decide +kernel
theorem dX9_seen_58 : decode cX9_seen 58 = .ok (.aload_n 0, 1) := by decide +kernel
theorem dX9_seen_59 : decode cX9_seen 59 = .ok (.getfield 76, 3) := by decide +kernel
theorem dX9_seen_62 : decode cX9_seen 62 = .ok (.aload_n 0, 1) := by decide +kernel
theorem dX9_seen_63 : decode cX9_seen 63 = .ok (.getfield 243, 3) := by decide +kernel
theorem dX9_seen_66 : decode cX9_seen 66 = .ok (.iload_n 3, 1) := by decide +kernel
theorem dX9_seen_67 : decode cX9_seen 67 = .ok (.iastore, 1) := by decide +kernel
theorem dX9_seen_68 : decode cX9_seen 68 = .ok (.aload_n 0, 1) := by decide +kernel
theorem dX9_seen_69 : decode cX9_seen 69 = .ok (.dup, 1) := by decide +kernel
theorem dX9_seen_70 : decode cX9_seen 70 = .ok (.getfield 243, 3) := by decide +kernel
theorem dX9_seen_73 : decode cX9_seen 73 = .ok (.iconst 1, 1) := by decide +kernel
theorem dX9_seen_74 : decode cX9_seen 74 = .ok (.iadd, 1) := by decide +kernel
theorem dX9_seen_75 : decode cX9_seen 75 = .ok (.putfield 243, 3) := by decide +kernel
theorem dX9_seen_78 : decode cX9_seen 78 = .ok (.aload_n 0, 1) := by decide +kernel
theorem dX9_seen_79 : decode cX9_seen 79 = .ok (.getfield 243, 3) := by decide +kernel
theorem dX9_seen_82 : decode cX9_seen 82 = .ok (.iconst 1, 1) := by decide +kernel
theorem dX9_seen_83 : decode cX9_seen 83 = .ok (.isub, 1) := by decide +kernel
theorem dX9_seen_84 : decode cX9_seen 84 = .ok (.ireturn, 1) := by decide +kernel
theorem dX9_areFalse_0 : decode cX9_areFalse 0 = .ok (.aload_n 0, 1) := by decide +kernel
theorem dX9_areFalse_1 : decode cX9_areFalse 1 = .ok (.getfield 76, 3) := by decide +kernel
theorem dX9_areFalse_4 : decode cX9_areFalse 4 = .ok (.iload_n 1, 1) := by decide +kernel
theorem dX9_areFalse_5 : decode cX9_areFalse 5 = .ok (.iaload, 1) := by decide +kernel
theorem dX9_areFalse_6 : decode cX9_areFalse 6 = .ok (.aload_n 0, 1) := by decide +kernel
theorem dX9_areFalse_7 : decode cX9_areFalse 7 = .ok (.getfield 76, 3) := by decide +kernel
theorem dX9_areFalse_10 : decode cX9_areFalse 10 = .ok (.iload_n 2, 1) := by decide +kernel
theorem dX9_areFalse_11 : decode cX9_areFalse 11 = .ok (.iaload, 1) := by decide +kernel
theorem dX9_areFalse_12 : decode cX9_areFalse 12 = .ok (.isub, 1) := by decide +kernel
theorem dX9_areFalse_13 : decode cX9_areFalse 13 = .ok (.istore_n 3, 1) := by decide +kernel
theorem dX9_areFalse_14 : decode cX9_areFalse 14 = .ok (.aload_n 0, 1) := by decide +kernel
theorem dX9_areFalse_15 : decode cX9_areFalse 15 = .ok (.getfield 73, 3) := by decide +kernel
theorem dX9_areFalse_18 : decode cX9_areFalse 18 = .ok (.iload_n 1, 1) := by decide +kernel
theorem dX9_areFalse_19 : decode cX9_areFalse 19 = .ok (.iaload, 1) := by decide +kernel
theorem dX9_areFalse_20 : decode cX9_areFalse 20 = .ok (.aload_n 0, 1) := by decide +kernel
theorem dX9_areFalse_21 : decode cX9_areFalse 21 = .ok (.getfield 73, 3) := by decide +kernel
theorem dX9_areFalse_24 : decode cX9_areFalse 24 = .ok (.iload_n 2, 1) := by decide +kernel
theorem dX9_areFalse_25 : decode cX9_areFalse 25 = .ok (.iaload, 1) := by decide +kernel
theorem dX9_areFalse_26 : decode cX9_areFalse 26 = .ok (.isub, 1) := by decide +kernel
theorem dX9_areFalse_27 : decode cX9_areFalse 27 = .ok (.istore 4, 2) := by decide +kernel
theorem dX9_areFalse_29 : decode cX9_areFalse 29 = .ok (.iload 4, 2) := by decide +kernel
theorem dX9_areFalse_31 : decode cX9_areFalse 31 = .ok (.iconst 2, 1) := by decide +kernel
theorem dX9_areFalse_32 : decode cX9_areFalse 32 = .ok (.if_icmp .gt 10, 3) := by decide +kernel
theorem dX9_areFalse_35 : decode cX9_areFalse 35 = .ok (.iload 4, 2) := by decide +kernel
theorem dX9_areFalse_37 : decode cX9_areFalse 37 = .ok (.bipush (-2), 2) := by decide +kernel
theorem dX9_areFalse_39 : decode cX9_areFalse 39 = .ok (.if_icmp .ge 7, 3) := by decide +kernel
theorem dX9_areFalse_42 : decode cX9_areFalse 42 = .ok (.iconst 1, 1) := by decide +kernel
theorem dX9_areFalse_43 : decode cX9_areFalse 43 = .ok (.goto 4, 3) := by decide +kernel
theorem dX9_areFalse_46 : decode cX9_areFalse 46 = .ok (.iconst 0, 1) := by decide +kernel
theorem dX9_areFalse_47 : decode cX9_areFalse 47 = .ok (.istore 5, 2) := by decide +kernel
theorem dX9_areFalse_49 : decode cX9_areFalse 49 = .ok (.aload_n 0, 1) := by decide +kernel
theorem dX9_areFalse_50 : decode cX9_areFalse 50 = .ok (.getfield 70, 3) := by decide +kernel
theorem dX9_areFalse_53 : decode cX9_areFalse 53 = .ok (.iload_n 1, 1) := by decide +kernel
theorem dX9_areFalse_54 : decode cX9_areFalse 54 = .ok (.iaload, 1) := by decide +kernel
theorem dX9_areFalse_55 : decode cX9_areFalse 55 = .ok (.aload_n 0, 1) := by decide +kernel
theorem dX9_areFalse_56 : decode cX9_areFalse 56 = .ok (.getfield 70, 3) := by decide +kernel
theorem dX9_areFalse_59 : decode cX9_areFalse 59 = .ok (.iload_n 2, 1) := by decide +kernel
theorem dX9_areFalse_60 : decode cX9_areFalse 60 = .ok (.iaload, 1) := by decide +kernel
theorem dX9_areFalse_61 : decode cX9_areFalse 61 = .ok (.if_icmp .ne 31, 3) := by decide +kernel
theorem dX9_areFalse_64 : decode cX9_areFalse 64 = .ok (.iload_n 3, 1) := by decide +kernel
theorem dX9_areFalse_65 : decode cX9_areFalse 65 = .ok (.ifCond .ne 8, 3) := by decide +kernel
theorem dX9_areFalse_68 : decode cX9_areFalse 68 = .ok (.iload 4, 2) := by decide +kernel
theorem dX9_areFalse_70 : decode cX9_areFalse 70 = .ok (.ifCond .ne 18, 3) := by decide +kernel
theorem dX9_areFalse_73 : decode cX9_areFalse 73 = .ok (.iload_n 3, 1) := by decide +kernel
theorem dX9_areFalse_74 : decode cX9_areFalse 74 = .ok (.iconst 1, 1) := by decide +kernel
theorem dX9_areFalse_75 : decode cX9_areFalse 75 = .ok (.if_icmp .eq 8, 3) := by decide +kernel
theorem dX9_areFalse_78 : decode cX9_areFalse 78 = .ok (.iload_n 3, 1) := by decide +kernel
theorem dX9_areFalse_79 : decode cX9_areFalse 79 = .ok (.iconst (-1), 1) := by decide +kernel
theorem dX9_areFalse_80 : decode cX9_areFalse 80 = .ok (.if_icmp .ne 12, 3) := by decide +kernel
theorem dX9_areFalse_83 : decode cX9_areFalse 83 = .ok (.iload 5, 2) := by decide +kernel
theorem dX9_areFalse_85 : decode cX9_areFalse 85 = .ok (.ifCond .eq 7, 3) := by decide +kernel
theorem dX9_areFalse_88 : decode cX9_areFalse 88 = .ok (.iconst 1, 1) := by decide +kernel
theorem dX9_areFalse_89 : decode cX9_areFalse 89 = .ok (.goto 4, 3) := by decide +kernel
theorem dX9_areFalse_92 : decode cX9_areFalse 92 = .ok (.iconst 0, 1) := by decide +kernel
theorem dX9_areFalse_93 : decode cX9_areFalse 93 = .ok (.ireturn, 1) := by decide +kernel
theorem dX9_isSight_0 : decode cX9_isSight 0 = .ok (.iload_n 1, 1) := by decide +kernel
theorem dX9_isSight_1 : decode cX9_isSight 1 = .ok (.iconst 0, 1) := by decide +kernel
theorem dX9_isSight_2 : decode cX9_isSight 2 = .ok (.aload_n 0, 1) := by decide +kernel
theorem dX9_isSight_3 : decode cX9_isSight 3 = .ok (.getfield 243, 3) := by decide +kernel
theorem dX9_isSight_6 : decode cX9_isSight 6 = .ok (.iconst 1, 1) := by decide +kernel
theorem dX9_isSight_7 : decode cX9_isSight 7 = .ok (.isub, 1) := by decide +kernel
theorem dX9_isSight_8 : decode cX9_isSight 8 = .ok (.invokestatic 103, 3) := by decide +kernel
theorem dX9_isSight_11 : decode cX9_isSight 11 = .ok (.ireturn, 1) := by decide +kernel
theorem dX9_isFalse_0 : decode cX9_isFalse 0 = .ok (.aload_n 0, 1) := by decide +kernel
theorem dX9_isFalse_1 : decode cX9_isFalse 1 = .ok (.iload_n 1, 1) := by decide +kernel
theorem dX9_isFalse_2 : decode cX9_isFalse 2 = .ok (.invokevirtual 246, 3) := by decide +kernel
theorem dX9_isFalse_5 : decode cX9_isFalse 5 = .ok (.ifCond .eq 16, 3) := by decide +kernel
theorem dX9_isFalse_8 : decode cX9_isFalse 8 = .ok (.aload_n 0, 1) := by decide +kernel
theorem dX9_isFalse_9 : decode cX9_isFalse 9 = .ok (.iload_n 2, 1) := by decide +kernel
theorem dX9_isFalse_10 : decode cX9_isFalse 10 = .ok (.invokevirtual 246, 3) := by decide +kernel
theorem dX9_isFalse_13 : decode cX9_isFalse 13 = .ok (.ifCond .eq 8, 3) := by decide +kernel
theorem dX9_isFalse_16 : decode cX9_isFalse 16 = .ok (.iload_n 1, 1) := by decide +kernel
theorem dX9_isFalse_17 : decode cX9_isFalse 17 = .ok (.iload_n 2, 1) := by decide +kernel
theorem dX9_isFalse_18 : decode cX9_isFalse 18 = .ok (.if_icmp .ne 8, 3) := by decide +kernel
theorem dX9_isFalse_21 : decode cX9_isFalse 21 = .ok (.bipush (-2), 2) := by decide +kernel
theorem dX9_isFalse_23 : decode cX9_isFalse 23 = .ok (.goto 17, 3) := by decide +kernel
theorem dX9_isFalse_26 : decode cX9_isFalse 26 = .ok (.aload_n 0, 1) := by decide +kernel
theorem dX9_isFalse_27 : decode cX9_isFalse 27 = .ok (.iload_n 1, 1) := by decide +kernel
theorem dX9_isFalse_28 : decode cX9_isFalse 28 = .ok (.iload_n 2, 1) := by decide +kernel
theorem dX9_isFalse_29 : decode cX9_isFalse 29 = .ok (.invokevirtual 249, 3) := by decide +kernel
theorem dX9_isFalse_32 : decode cX9_isFalse 32 = .ok (.ifCond .eq 7, 3) := by decide +kernel
theorem dX9_isFalse_35 : decode cX9_isFalse 35 = .ok (.iconst 1, 1) := by decide +kernel
theorem dX9_isFalse_36 : decode cX9_isFalse 36 = .ok (.goto 4, 3) := by decide +kernel
theorem dX9_isFalse_39 : decode cX9_isFalse 39 = .ok (.iconst 0, 1) := by decide +kernel
theorem dX9_isFalse_40 : decode cX9_isFalse 40 = .ok (.ireturn, 1) := by decide +kernel
theorem dX9_hatsOf_0 : decode cX9_hatsOf 0 = .ok (.iconst (-1), 1) := by decide +kernel
theorem dX9_hatsOf_1 : decode cX9_hatsOf 1 = .ok (.istore_n 2, 1) := by decide +kernel
theorem dX9_hatsOf_2 : decode cX9_hatsOf 2 = .ok (.iconst 0, 1) := by decide +kernel
theorem dX9_hatsOf_3 : decode cX9_hatsOf 3 = .ok (.istore_n 3, 1) := by decide +kernel
theorem dX9_hatsOf_4 : decode cX9_hatsOf 4 = .ok (.iload_n 3, 1) := by decide +kernel
theorem dX9_hatsOf_5 : decode cX9_hatsOf 5 = .ok (.iconst 1, 1) := by decide +kernel
theorem dX9_hatsOf_6 : decode cX9_hatsOf 6 = .ok (.aload_n 0, 1) := by decide +kernel
theorem dX9_hatsOf_7 : decode cX9_hatsOf 7 = .ok (.getfield 243, 3) := by decide +kernel
theorem dX9_hatsOf_10 : decode cX9_hatsOf 10 = .ok (.ishl, 1) := by decide +kernel
theorem dX9_hatsOf_11 : decode cX9_hatsOf 11 = .ok (.if_icmp .ge 114, 3) := by decide +kernel
theorem dX9_hatsOf_14 : decode cX9_hatsOf 14 = .ok (.iload_n 2, 1) := by decide +kernel
theorem dX9_hatsOf_15 : decode cX9_hatsOf 15 = .ok (.iconst (-1), 1) := by decide +kernel
theorem dX9_hatsOf_16 : decode cX9_hatsOf 16 = .ok (.if_icmp .eq 14, 3) := by decide +kernel
theorem dX9_hatsOf_19 : decode cX9_hatsOf 19 = .ok (.iload_n 3, 1) := by decide +kernel
theorem dX9_hatsOf_20 : decode cX9_hatsOf 20 = .ok (.invokestatic 164, 3) := by decide +kernel
theorem dX9_hatsOf_23 : decode cX9_hatsOf 23 = .ok (.iload_n 2, 1) := by decide +kernel
theorem dX9_hatsOf_24 : decode cX9_hatsOf 24 = .ok (.invokestatic 164, 3) := by decide +kernel
theorem dX9_hatsOf_27 : decode cX9_hatsOf 27 = .ok (.if_icmp .ge 92, 3) := by decide +kernel
theorem dX9_hatsOf_30 : decode cX9_hatsOf 30 = .ok (.iconst 1, 1) := by decide +kernel
theorem dX9_hatsOf_31 : decode cX9_hatsOf 31 = .ok (.istore 4, 2) := by decide +kernel
theorem dX9_hatsOf_33 : decode cX9_hatsOf 33 = .ok (.iconst 0, 1) := by decide +kernel
theorem dX9_hatsOf_34 : decode cX9_hatsOf 34 = .ok (.istore 5, 2) := by decide +kernel
theorem dX9_hatsOf_36 : decode cX9_hatsOf 36 = .ok (.iload 5, 2) := by decide +kernel
theorem dX9_hatsOf_38 : decode cX9_hatsOf 38 = .ok (.aload_n 0, 1) := by decide +kernel
theorem dX9_hatsOf_39 : decode cX9_hatsOf 39 = .ok (.getfield 243, 3) := by decide +kernel
theorem dX9_hatsOf_42 : decode cX9_hatsOf 42 = .ok (.if_icmp .ge 66, 3) := by decide +kernel
theorem dX9_hatsOf_45 : decode cX9_hatsOf 45 = .ok (.iconst 0, 1) := by decide +kernel
theorem dX9_hatsOf_46 : decode cX9_hatsOf 46 = .ok (.istore 6, 2) := by decide +kernel
theorem dX9_hatsOf_48 : decode cX9_hatsOf 48 = .ok (.iload 6, 2) := by decide +kernel
theorem dX9_hatsOf_50 : decode cX9_hatsOf 50 = .ok (.iload 5, 2) := by decide +kernel
theorem dX9_hatsOf_52 : decode cX9_hatsOf 52 = .ok (.if_icmp .ge 50, 3) := by decide +kernel
theorem dX9_hatsOf_55 : decode cX9_hatsOf 55 = .ok (.iload 4, 2) := by decide +kernel
theorem dX9_hatsOf_57 : decode cX9_hatsOf 57 = .ok (.ifCond .eq 36, 3) := by decide +kernel
theorem dX9_hatsOf_60 : decode cX9_hatsOf 60 = .ok (.iload_n 3, 1) := by decide +kernel
theorem dX9_hatsOf_61 : decode cX9_hatsOf 61 = .ok (.iload 5, 2) := by decide +kernel
theorem dX9_hatsOf_63 : decode cX9_hatsOf 63 = .ok (.invokestatic 119, 3) := by decide +kernel
theorem dX9_hatsOf_66 : decode cX9_hatsOf 66 = .ok (.ifCond .ne 23, 3) := by decide +kernel
theorem dX9_hatsOf_69 : decode cX9_hatsOf 69 = .ok (.iload_n 3, 1) := by decide +kernel
theorem dX9_hatsOf_70 : decode cX9_hatsOf 70 = .ok (.iload 6, 2) := by decide +kernel
theorem dX9_hatsOf_72 : decode cX9_hatsOf 72 = .ok (.invokestatic 119, 3) := by decide +kernel
theorem dX9_hatsOf_75 : decode cX9_hatsOf 75 = .ok (.ifCond .ne 14, 3) := by decide +kernel
theorem dX9_hatsOf_78 : decode cX9_hatsOf 78 = .ok (.aload_n 0, 1) := by decide +kernel
theorem dX9_hatsOf_79 : decode cX9_hatsOf 79 = .ok (.iload 5, 2) := by decide +kernel
theorem dX9_hatsOf_81 : decode cX9_hatsOf 81 = .ok (.iload 6, 2) := by decide +kernel
theorem dX9_hatsOf_83 : decode cX9_hatsOf 83 = .ok (.invokevirtual 249, 3) := by decide +kernel
theorem dX9_hatsOf_86 : decode cX9_hatsOf 86 = .ok (.ifCond .ne 7, 3) := by decide +kernel
theorem dX9_hatsOf_89 : decode cX9_hatsOf 89 = .ok (.iconst 1, 1) := by decide +kernel
theorem dX9_hatsOf_90 : decode cX9_hatsOf 90 = .ok (.goto 4, 3) := by decide +kernel
theorem dX9_hatsOf_93 : decode cX9_hatsOf 93 = .ok (.iconst 0, 1) := by decide +kernel
theorem dX9_hatsOf_94 : decode cX9_hatsOf 94 = .ok (.istore 4, 2) := by decide +kernel
theorem dX9_hatsOf_96 : decode cX9_hatsOf 96 = .ok (.iinc 6 1, 3) := by decide +kernel
theorem dX9_hatsOf_99 : decode cX9_hatsOf 99 = .ok (.goto (-51), 3) := by decide +kernel
theorem dX9_hatsOf_102 : decode cX9_hatsOf 102 = .ok (.iinc 5 1, 3) := by decide +kernel
theorem dX9_hatsOf_105 : decode cX9_hatsOf 105 = .ok (.goto (-69), 3) := by decide +kernel
theorem dX9_hatsOf_108 : decode cX9_hatsOf 108 = .ok (.iload 4, 2) := by decide +kernel
theorem dX9_hatsOf_110 : decode cX9_hatsOf 110 = .ok (.ifCond .eq 7, 3) := by decide +kernel
theorem dX9_hatsOf_113 : decode cX9_hatsOf 113 = .ok (.iload_n 3, 1) := by decide +kernel
theorem dX9_hatsOf_114 : decode cX9_hatsOf 114 = .ok (.goto 4, 3) := by decide +kernel
theorem dX9_hatsOf_117 : decode cX9_hatsOf 117 = .ok (.iload_n 2, 1) := by decide +kernel
theorem dX9_hatsOf_118 : decode cX9_hatsOf 118 = .ok (.istore_n 2, 1) := by decide +kernel
theorem dX9_hatsOf_119 : decode cX9_hatsOf 119 = .ok (.iinc 3 1, 3) := by decide +kernel
theorem dX9_hatsOf_122 : decode cX9_hatsOf 122 = .ok (.goto (-118), 3) := by decide +kernel
theorem dX9_hatsOf_125 : decode cX9_hatsOf 125 = .ok (.iload_n 1, 1) := by decide +kernel
theorem dX9_hatsOf_126 : decode cX9_hatsOf 126 = .ok (.ifCond .ne 10, 3) := by decide +kernel
theorem dX9_hatsOf_129 : decode cX9_hatsOf 129 = .ok (.iload_n 2, 1) := by decide +kernel
theorem dX9_hatsOf_130 : decode cX9_hatsOf 130 = .ok (.invokestatic 164, 3) := by decide +kernel
theorem dX9_hatsOf_133 : decode cX9_hatsOf 133 = .ok (.goto 4, 3) := by decide +kernel
theorem dX9_hatsOf_136 : decode cX9_hatsOf 136 = .ok (.iload_n 2, 1) := by decide +kernel
theorem dX9_hatsOf_137 : decode cX9_hatsOf 137 = .ok (.ireturn, 1) := by decide +kernel
theorem dX9_hats_0 : decode cX9_hats 0 = .ok (.iload_n 1, 1) := by decide +kernel
theorem dX9_hats_1 : decode cX9_hats 1 = .ok (.iconst 0, 1) := by decide +kernel
theorem dX9_hats_2 : decode cX9_hats 2 = .ok (.iconst 1, 1) := by decide +kernel
theorem dX9_hats_3 : decode cX9_hats 3 = .ok (.invokestatic 103, 3) := by decide +kernel
theorem dX9_hats_6 : decode cX9_hats 6 = .ok (.ifCond .eq 11, 3) := by decide +kernel
theorem dX9_hats_9 : decode cX9_hats 9 = .ok (.aload_n 0, 1) := by decide +kernel
theorem dX9_hats_10 : decode cX9_hats 10 = .ok (.iload_n 1, 1) := by decide +kernel
theorem dX9_hats_11 : decode cX9_hats 11 = .ok (.invokevirtual 252, 3) := by decide +kernel
theorem dX9_hats_14 : decode cX9_hats 14 = .ok (.goto 5, 3) := by decide +kernel
theorem dX9_hats_17 : decode cX9_hats 17 = .ok (.bipush (-2), 2) := by decide +kernel
theorem dX9_hats_19 : decode cX9_hats 19 = .ok (.ireturn, 1) := by decide +kernel
theorem dX9_after_0 : decode cX9_after 0 = .ok (.iload_n 1, 1) := by decide +kernel
theorem dX9_after_1 : decode cX9_after 1 = .ok (.iconst 0, 1) := by decide +kernel
theorem dX9_after_2 : decode cX9_after 2 = .ok (.bipush 7, 2) := by decide +kernel
theorem dX9_after_4 : decode cX9_after 4 = .ok (.invokestatic 103, 3) := by decide +kernel
theorem dX9_after_7 : decode cX9_after 7 = .ok (.ifCond .eq 18, 3) := by decide +kernel
theorem dX9_after_10 : decode cX9_after 10 = .ok (.iload_n 2, 1) := by decide +kernel
theorem dX9_after_11 : decode cX9_after 11 = .ok (.iconst 0, 1) := by decide +kernel
theorem dX9_after_12 : decode cX9_after 12 = .ok (.bipush 7, 2) := by decide +kernel
theorem dX9_after_14 : decode cX9_after 14 = .ok (.invokestatic 103, 3) := by decide +kernel
theorem dX9_after_17 : decode cX9_after 17 = .ok (.ifCond .eq 8, 3) := by decide +kernel
theorem dX9_after_20 : decode cX9_after 20 = .ok (.iload_n 1, 1) := by decide +kernel
theorem dX9_after_21 : decode cX9_after 21 = .ok (.iload_n 2, 1) := by decide +kernel
end
section
theorem dX9_after_22 : decode cX9_after 22 = .ok (.if_icmp .ne 6, 3) := by decide +kernel
theorem dX9_after_25 : decode cX9_after 25 = .ok (.bipush (-2), 2) := by decide +kernel
theorem dX9_after_27 : decode cX9_after 27 = .ok (.ireturn, 1) := by decide +kernel
theorem dX9_after_28 : decode cX9_after 28 = .ok (.aload_n 0, 1) := by decide +kernel
theorem dX9_after_29 : decode cX9_after 29 = .ok (.getfield 255, 3) := by decide +kernel
theorem dX9_after_32 : decode cX9_after 32 = .ok (.bipush 10, 2) := by decide +kernel
theorem dX9_after_34 : decode cX9_after 34 = .ok (.if_icmp .ne 6, 3) := by decide +kernel
theorem dX9_after_37 : decode cX9_after 37 = .ok (.bipush (-4), 2) := by decide +kernel
theorem dX9_after_39 : decode cX9_after 39 = .ok (.ireturn, 1) := by decide +kernel
theorem dX9_after_40 : decode cX9_after 40 = .ok (.aload_n 0, 1) := by decide +kernel
theorem dX9_after_41 : decode cX9_after 41 = .ok (.getfield 79, 3) := by decide +kernel
theorem dX9_after_44 : decode cX9_after 44 = .ok (.aload_n 0, 1) := by decide +kernel
theorem dX9_after_45 : decode cX9_after 45 = .ok (.getfield 255, 3) := by decide +kernel
theorem dX9_after_48 : decode cX9_after 48 = .ok (.iload_n 1, 1) := by decide +kernel
theorem dX9_after_49 : decode cX9_after 49 = .ok (.iastore, 1) := by decide +kernel
theorem dX9_after_50 : decode cX9_after 50 = .ok (.aload_n 0, 1) := by decide +kernel
theorem dX9_after_51 : decode cX9_after 51 = .ok (.getfield 82, 3) := by decide +kernel
theorem dX9_after_54 : decode cX9_after 54 = .ok (.aload_n 0, 1) := by decide +kernel
theorem dX9_after_55 : decode cX9_after 55 = .ok (.getfield 255, 3) := by decide +kernel
theorem dX9_after_58 : decode cX9_after 58 = .ok (.iload_n 2, 1) := by decide +kernel
theorem dX9_after_59 : decode cX9_after 59 = .ok (.iastore, 1) := by decide +kernel
theorem dX9_after_60 : decode cX9_after 60 = .ok (.aload_n 0, 1) := by decide +kernel
theorem dX9_after_61 : decode cX9_after 61 = .ok (.dup, 1) := by decide +kernel
theorem dX9_after_62 : decode cX9_after 62 = .ok (.getfield 255, 3) := by decide +kernel
theorem dX9_after_65 : decode cX9_after 65 = .ok (.iconst 1, 1) := by decide +kernel
theorem dX9_after_66 : decode cX9_after 66 = .ok (.iadd, 1) := by decide +kernel
theorem dX9_after_67 : decode cX9_after 67 = .ok (.putfield 255, 3) := by decide +kernel
theorem dX9_after_70 : decode cX9_after 70 = .ok (.aload_n 0, 1) := by decide +kernel
theorem dX9_after_71 : decode cX9_after 71 = .ok (.getfield 255, 3) := by decide +kernel
theorem dX9_after_74 : decode cX9_after 74 = .ok (.ireturn, 1) := by decide +kernel
theorem dX9_forget_0 : decode cX9_forget 0 = .ok (.iload_n 1, 1) := by decide +kernel
theorem dX9_forget_1 : decode cX9_forget 1 = .ok (.iconst 0, 1) := by decide +kernel
theorem dX9_forget_2 : decode cX9_forget 2 = .ok (.iconst 1, 1) := by decide +kernel
theorem dX9_forget_3 : decode cX9_forget 3 = .ok (.invokestatic 103, 3) := by decide +kernel
theorem dX9_forget_6 : decode cX9_forget 6 = .ok (.ifCond .ne 6, 3) := by decide +kernel
theorem dX9_forget_9 : decode cX9_forget 9 = .ok (.bipush (-2), 2) := by decide +kernel
theorem dX9_forget_11 : decode cX9_forget 11 = .ok (.ireturn, 1) := by decide +kernel
theorem dX9_forget_12 : decode cX9_forget 12 = .ok (.iload_n 1, 1) := by decide +kernel
theorem dX9_forget_13 : decode cX9_forget 13 = .ok (.ifCond .ne 10, 3) := by decide +kernel
theorem dX9_forget_16 : decode cX9_forget 16 = .ok (.aload_n 0, 1) := by decide +kernel
theorem dX9_forget_17 : decode cX9_forget 17 = .ok (.getfield 243, 3) := by decide +kernel
theorem dX9_forget_20 : decode cX9_forget 20 = .ok (.goto 7, 3) := by decide +kernel
theorem dX9_forget_23 : decode cX9_forget 23 = .ok (.aload_n 0, 1) := by decide +kernel
theorem dX9_forget_24 : decode cX9_forget 24 = .ok (.getfield 255, 3) := by decide +kernel
theorem dX9_forget_27 : decode cX9_forget 27 = .ok (.istore_n 2, 1) := by decide +kernel
theorem dX9_forget_28 : decode cX9_forget 28 = .ok (.aload_n 0, 1) := by decide +kernel
theorem dX9_forget_29 : decode cX9_forget 29 = .ok (.iload_n 1, 1) := by decide +kernel
theorem dX9_forget_30 : decode cX9_forget 30 = .ok (.ifCond .ne 7, 3) := by decide +kernel
theorem dX9_forget_33 : decode cX9_forget 33 = .ok (.iconst 0, 1) := by decide +kernel
theorem dX9_forget_34 : decode cX9_forget 34 = .ok (.goto 7, 3) := by decide +kernel
theorem dX9_forget_37 : decode cX9_forget 37 = .ok (.aload_n 0, 1) := by decide +kernel
theorem dX9_forget_38 : decode cX9_forget 38 = .ok (.getfield 243, 3) := by decide +kernel
theorem dX9_forget_41 : decode cX9_forget 41 = .ok (.putfield 243, 3) := by decide +kernel
theorem dX9_forget_44 : decode cX9_forget 44 = .ok (.aload_n 0, 1) := by decide +kernel
theorem dX9_forget_45 : decode cX9_forget 45 = .ok (.iload_n 1, 1) := by decide +kernel
theorem dX9_forget_46 : decode cX9_forget 46 = .ok (.iconst 1, 1) := by decide +kernel
theorem dX9_forget_47 : decode cX9_forget 47 = .ok (.if_icmp .ne 7, 3) := by decide +kernel
theorem dX9_forget_50 : decode cX9_forget 50 = .ok (.iconst 0, 1) := by decide +kernel
theorem dX9_forget_51 : decode cX9_forget 51 = .ok (.goto 7, 3) := by decide +kernel
theorem dX9_forget_54 : decode cX9_forget 54 = .ok (.aload_n 0, 1) := by decide +kernel
theorem dX9_forget_55 : decode cX9_forget 55 = .ok (.getfield 255, 3) := by decide +kernel
theorem dX9_forget_58 : decode cX9_forget 58 = .ok (.putfield 255, 3) := by decide +kernel
theorem dX9_forget_61 : decode cX9_forget 61 = .ok (.iload_n 2, 1) := by decide +kernel
theorem dX9_forget_62 : decode cX9_forget 62 = .ok (.ireturn, 1) := by decide +kernel
theorem dX9_sparedOf_0 : decode cX9_sparedOf 0 = .ok (.iload_n 1, 1) := by decide +kernel
theorem dX9_sparedOf_1 : decode cX9_sparedOf 1 = .ok (.istore_n 2, 1) := by decide +kernel
theorem dX9_sparedOf_2 : decode cX9_sparedOf 2 = .ok (.iconst 0, 1) := by decide +kernel
theorem dX9_sparedOf_3 : decode cX9_sparedOf 3 = .ok (.istore_n 3, 1) := by decide +kernel
theorem dX9_sparedOf_4 : decode cX9_sparedOf 4 = .ok (.iload_n 3, 1) := by decide +kernel
theorem dX9_sparedOf_5 : decode cX9_sparedOf 5 = .ok (.bipush 8, 2) := by decide +kernel
theorem dX9_sparedOf_7 : decode cX9_sparedOf 7 = .ok (.if_icmp .ge 85, 3) := by decide +kernel
theorem dX9_sparedOf_10 : decode cX9_sparedOf 10 = .ok (.iconst 0, 1) := by decide +kernel
theorem dX9_sparedOf_11 : decode cX9_sparedOf 11 = .ok (.istore 4, 2) := by decide +kernel
theorem dX9_sparedOf_13 : decode cX9_sparedOf 13 = .ok (.iload 4, 2) := by decide +kernel
theorem dX9_sparedOf_15 : decode cX9_sparedOf 15 = .ok (.aload_n 0, 1) := by decide +kernel
theorem dX9_sparedOf_16 : decode cX9_sparedOf 16 = .ok (.getfield 255, 3) := by decide +kernel
theorem dX9_sparedOf_19 : decode cX9_sparedOf 19 = .ok (.if_icmp .ge 67, 3) := by decide +kernel
theorem dX9_sparedOf_22 : decode cX9_sparedOf 22 = .ok (.iload_n 2, 1) := by decide +kernel
theorem dX9_sparedOf_23 : decode cX9_sparedOf 23 = .ok (.aload_n 0, 1) := by decide +kernel
theorem dX9_sparedOf_24 : decode cX9_sparedOf 24 = .ok (.getfield 79, 3) := by decide +kernel
theorem dX9_sparedOf_27 : decode cX9_sparedOf 27 = .ok (.iload 4, 2) := by decide +kernel
theorem dX9_sparedOf_29 : decode cX9_sparedOf 29 = .ok (.iaload, 1) := by decide +kernel
theorem dX9_sparedOf_30 : decode cX9_sparedOf 30 = .ok (.aload_n 0, 1) := by decide +kernel
theorem dX9_sparedOf_31 : decode cX9_sparedOf 31 = .ok (.getfield 107, 3) := by decide +kernel
theorem dX9_sparedOf_34 : decode cX9_sparedOf 34 = .ok (.if_icmp .ge 43, 3) := by decide +kernel
theorem dX9_sparedOf_37 : decode cX9_sparedOf 37 = .ok (.aload_n 0, 1) := by decide +kernel
theorem dX9_sparedOf_38 : decode cX9_sparedOf 38 = .ok (.getfield 82, 3) := by decide +kernel
theorem dX9_sparedOf_41 : decode cX9_sparedOf 41 = .ok (.iload 4, 2) := by decide +kernel
theorem dX9_sparedOf_43 : decode cX9_sparedOf 43 = .ok (.iaload, 1) := by decide +kernel
theorem dX9_sparedOf_44 : decode cX9_sparedOf 44 = .ok (.aload_n 0, 1) := by decide +kernel
theorem dX9_sparedOf_45 : decode cX9_sparedOf 45 = .ok (.getfield 107, 3) := by decide +kernel
theorem dX9_sparedOf_48 : decode cX9_sparedOf 48 = .ok (.if_icmp .ge 29, 3) := by decide +kernel
theorem dX9_sparedOf_51 : decode cX9_sparedOf 51 = .ok (.iload_n 2, 1) := by decide +kernel
theorem dX9_sparedOf_52 : decode cX9_sparedOf 52 = .ok (.aload_n 0, 1) := by decide +kernel
theorem dX9_sparedOf_53 : decode cX9_sparedOf 53 = .ok (.getfield 79, 3) := by decide +kernel
theorem dX9_sparedOf_56 : decode cX9_sparedOf 56 = .ok (.iload 4, 2) := by decide +kernel
theorem dX9_sparedOf_58 : decode cX9_sparedOf 58 = .ok (.iaload, 1) := by decide +kernel
theorem dX9_sparedOf_59 : decode cX9_sparedOf 59 = .ok (.invokestatic 119, 3) := by decide +kernel
theorem dX9_sparedOf_62 : decode cX9_sparedOf 62 = .ok (.ifCond .eq 15, 3) := by decide +kernel
theorem dX9_sparedOf_65 : decode cX9_sparedOf 65 = .ok (.iconst 1, 1) := by decide +kernel
theorem dX9_sparedOf_66 : decode cX9_sparedOf 66 = .ok (.aload_n 0, 1) := by decide +kernel
theorem dX9_sparedOf_67 : decode cX9_sparedOf 67 = .ok (.getfield 82, 3) := by decide +kernel
theorem dX9_sparedOf_70 : decode cX9_sparedOf 70 = .ok (.iload 4, 2) := by decide +kernel
theorem dX9_sparedOf_72 : decode cX9_sparedOf 72 = .ok (.iaload, 1) := by decide +kernel
theorem dX9_sparedOf_73 : decode cX9_sparedOf 73 = .ok (.ishl, 1) := by decide +kernel
theorem dX9_sparedOf_74 : decode cX9_sparedOf 74 = .ok (.goto 4, 3) := by decide +kernel
theorem dX9_sparedOf_77 : decode cX9_sparedOf 77 = .ok (.iconst 0, 1) := by decide +kernel
theorem dX9_sparedOf_78 : decode cX9_sparedOf 78 = .ok (.ior, 1) := by decide +kernel
theorem dX9_sparedOf_79 : decode cX9_sparedOf 79 = .ok (.istore_n 2, 1) := by decide +kernel
theorem dX9_sparedOf_80 : decode cX9_sparedOf 80 = .ok (.iinc 4 1, 3) := by decide +kernel
theorem dX9_sparedOf_83 : decode cX9_sparedOf 83 = .ok (.goto (-70), 3) := by decide +kernel
theorem dX9_sparedOf_86 : decode cX9_sparedOf 86 = .ok (.iinc 3 1, 3) := by decide +kernel
theorem dX9_sparedOf_89 : decode cX9_sparedOf 89 = .ok (.goto (-85), 3) := by decide +kernel
theorem dX9_sparedOf_92 : decode cX9_sparedOf 92 = .ok (.aload_n 0, 1) := by decide +kernel
theorem dX9_sparedOf_93 : decode cX9_sparedOf 93 = .ok (.iload_n 2, 1) := by decide +kernel
theorem dX9_sparedOf_94 : decode cX9_sparedOf 94 = .ok (.iload_n 1, 1) := by decide +kernel
theorem dX9_sparedOf_95 : decode cX9_sparedOf 95 = .ok (.iconst (-1), 1) := by decide +kernel
theorem dX9_sparedOf_96 : decode cX9_sparedOf 96 = .ok (.ixor, 1) := by decide +kernel
theorem dX9_sparedOf_97 : decode cX9_sparedOf 97 = .ok (.iand, 1) := by decide +kernel
theorem dX9_sparedOf_98 : decode cX9_sparedOf 98 = .ok (.invokevirtual 195, 3) := by decide +kernel
theorem dX9_sparedOf_101 : decode cX9_sparedOf 101 = .ok (.ireturn, 1) := by decide +kernel
theorem dX9_allDeeds_0 : decode cX9_allDeeds 0 = .ok (.aload_n 0, 1) := by decide +kernel
theorem dX9_allDeeds_1 : decode cX9_allDeeds 1 = .ok (.invokevirtual 139, 3) := by decide +kernel
theorem dX9_allDeeds_4 : decode cX9_allDeeds 4 = .ok (.iconst 1, 1) := by decide +kernel
theorem dX9_allDeeds_5 : decode cX9_allDeeds 5 = .ok (.aload_n 0, 1) := by decide +kernel
theorem dX9_allDeeds_6 : decode cX9_allDeeds 6 = .ok (.getfield 107, 3) := by decide +kernel
theorem dX9_allDeeds_9 : decode cX9_allDeeds 9 = .ok (.ishl, 1) := by decide +kernel
theorem dX9_allDeeds_10 : decode cX9_allDeeds 10 = .ok (.iconst 1, 1) := by decide +kernel
theorem dX9_allDeeds_11 : decode cX9_allDeeds 11 = .ok (.isub, 1) := by decide +kernel
theorem dX9_allDeeds_12 : decode cX9_allDeeds 12 = .ok (.ireturn, 1) := by decide +kernel
theorem dX9_spared_0 : decode cX9_spared 0 = .ok (.iload_n 1, 1) := by decide +kernel
theorem dX9_spared_1 : decode cX9_spared 1 = .ok (.iconst 0, 1) := by decide +kernel
theorem dX9_spared_2 : decode cX9_spared 2 = .ok (.aload_n 0, 1) := by decide +kernel
theorem dX9_spared_3 : decode cX9_spared 3 = .ok (.invokevirtual 258, 3) := by decide +kernel
theorem dX9_spared_6 : decode cX9_spared 6 = .ok (.invokestatic 103, 3) := by decide +kernel
theorem dX9_spared_9 : decode cX9_spared 9 = .ok (.ifCond .eq 11, 3) := by decide +kernel
theorem dX9_spared_12 : decode cX9_spared 12 = .ok (.aload_n 0, 1) := by decide +kernel
theorem dX9_spared_13 : decode cX9_spared 13 = .ok (.iload_n 1, 1) := by decide +kernel
theorem dX9_spared_14 : decode cX9_spared 14 = .ok (.invokevirtual 261, 3) := by decide +kernel
theorem dX9_spared_17 : decode cX9_spared 17 = .ok (.goto 5, 3) := by decide +kernel
theorem dX9_spared_20 : decode cX9_spared 20 = .ok (.bipush (-2), 2) := by decide +kernel
theorem dX9_spared_22 : decode cX9_spared 22 = .ok (.ireturn, 1) := by decide +kernel
theorem dX9_bestNow_0 : decode cX9_bestNow 0 = .ok (.aload_n 0, 1) := by decide +kernel
theorem dX9_bestNow_1 : decode cX9_bestNow 1 = .ok (.invokevirtual 139, 3) := by decide +kernel
theorem dX9_bestNow_4 : decode cX9_bestNow 4 = .ok (.iconst (-1), 1) := by decide +kernel
theorem dX9_bestNow_5 : decode cX9_bestNow 5 = .ok (.istore_n 1, 1) := by decide +kernel
theorem dX9_bestNow_6 : decode cX9_bestNow 6 = .ok (.iconst 0, 1) := by decide +kernel
theorem dX9_bestNow_7 : decode cX9_bestNow 7 = .ok (.istore_n 2, 1) := by decide +kernel
theorem dX9_bestNow_8 : decode cX9_bestNow 8 = .ok (.iconst 0, 1) := by decide +kernel
theorem dX9_bestNow_9 : decode cX9_bestNow 9 = .ok (.istore_n 3, 1) := by decide +kernel
theorem dX9_bestNow_10 : decode cX9_bestNow 10 = .ok (.iload_n 3, 1) := by decide +kernel
theorem dX9_bestNow_11 : decode cX9_bestNow 11 = .ok (.aload_n 0, 1) := by decide +kernel
theorem dX9_bestNow_12 : decode cX9_bestNow 12 = .ok (.getfield 107, 3) := by decide +kernel
theorem dX9_bestNow_15 : decode cX9_bestNow 15 = .ok (.if_icmp .ge 50, 3) := by decide +kernel
theorem dX9_bestNow_18 : decode cX9_bestNow 18 = .ok (.aload_n 0, 1) := by decide +kernel
theorem dX9_bestNow_19 : decode cX9_bestNow 19 = .ok (.getfield 25, 3) := by decide +kernel
theorem dX9_bestNow_22 : decode cX9_bestNow 22 = .ok (.iload_n 3, 1) := by decide +kernel
theorem dX9_bestNow_23 : decode cX9_bestNow 23 = .ok (.iaload, 1) := by decide +kernel
theorem dX9_bestNow_24 : decode cX9_bestNow 24 = .ok (.aload_n 0, 1) := by decide +kernel
theorem dX9_bestNow_25 : decode cX9_bestNow 25 = .ok (.iconst 1, 1) := by decide +kernel
theorem dX9_bestNow_26 : decode cX9_bestNow 26 = .ok (.iload_n 3, 1) := by decide +kernel
theorem dX9_bestNow_27 : decode cX9_bestNow 27 = .ok (.ishl, 1) := by decide +kernel
theorem dX9_bestNow_28 : decode cX9_bestNow 28 = .ok (.invokevirtual 261, 3) := by decide +kernel
theorem dX9_bestNow_31 : decode cX9_bestNow 31 = .ok (.iadd, 1) := by decide +kernel
theorem dX9_bestNow_32 : decode cX9_bestNow 32 = .ok (.istore 4, 2) := by decide +kernel
theorem dX9_bestNow_34 : decode cX9_bestNow 34 = .ok (.iload 4, 2) := by decide +kernel
theorem dX9_bestNow_36 : decode cX9_bestNow 36 = .ok (.iload_n 2, 1) := by decide +kernel
theorem dX9_bestNow_37 : decode cX9_bestNow 37 = .ok (.if_icmp .le 7, 3) := by decide +kernel
theorem dX9_bestNow_40 : decode cX9_bestNow 40 = .ok (.iload_n 3, 1) := by decide +kernel
theorem dX9_bestNow_41 : decode cX9_bestNow 41 = .ok (.goto 4, 3) := by decide +kernel
theorem dX9_bestNow_44 : decode cX9_bestNow 44 = .ok (.iload_n 1, 1) := by decide +kernel
theorem dX9_bestNow_45 : decode cX9_bestNow 45 = .ok (.istore_n 1, 1) := by decide +kernel
theorem dX9_bestNow_46 : decode cX9_bestNow 46 = .ok (.iload 4, 2) := by decide +kernel
theorem dX9_bestNow_48 : decode cX9_bestNow 48 = .ok (.iload_n 2, 1) := by decide +kernel
theorem dX9_bestNow_49 : decode cX9_bestNow 49 = .ok (.if_icmp .le 8, 3) := by decide +kernel
theorem dX9_bestNow_52 : decode cX9_bestNow 52 = .ok (.iload 4, 2) := by decide +kernel
theorem dX9_bestNow_54 : decode cX9_bestNow 54 = .ok (.goto 4, 3) := by decide +kernel
theorem dX9_bestNow_57 : decode cX9_bestNow 57 = .ok (.iload_n 2, 1) := by decide +kernel
theorem dX9_bestNow_58 : decode cX9_bestNow 58 = .ok (.istore_n 2, 1) := by decide +kernel
theorem dX9_bestNow_59 : decode cX9_bestNow 59 = .ok (.iinc 3 1, 3) := by decide +kernel
theorem dX9_bestNow_62 : decode cX9_bestNow 62 = .ok (.goto (-52), 3) := by decide +kernel
theorem dX9_bestNow_65 : decode cX9_bestNow 65 = .ok (.iload_n 1, 1) := by decide +kernel
theorem dX9_bestNow_66 : decode cX9_bestNow 66 = .ok (.ireturn, 1) := by decide +kernel
theorem dX9_best_0 : decode cX9_best 0 = .ok (.aload_n 0, 1) := by decide +kernel
theorem dX9_best_1 : decode cX9_best 1 = .ok (.invokevirtual 264, 3) := by decide +kernel
theorem dX9_best_4 : decode cX9_best 4 = .ok (.ireturn, 1) := by decide +kernel
theorem dX9_regretsOf_0 : decode cX9_regretsOf 0 = .ok (.aload_n 0, 1) := by decide +kernel
theorem dX9_regretsOf_1 : decode cX9_regretsOf 1 = .ok (.invokevirtual 139, 3) := by decide +kernel
theorem dX9_regretsOf_4 : decode cX9_regretsOf 4 = .ok (.iconst 0, 1) := by decide +kernel
theorem dX9_regretsOf_5 : decode cX9_regretsOf 5 = .ok (.istore_n 3, 1) := by decide +kernel
theorem dX9_regretsOf_6 : decode cX9_regretsOf 6 = .ok (.iconst 0, 1) := by decide +kernel
theorem dX9_regretsOf_7 : decode cX9_regretsOf 7 = .ok (.istore 4, 2) := by decide +kernel
theorem dX9_regretsOf_9 : decode cX9_regretsOf 9 = .ok (.iload 4, 2) := by decide +kernel
theorem dX9_regretsOf_11 : decode cX9_regretsOf 11 = .ok (.aload_n 0, 1) := by decide +kernel
theorem dX9_regretsOf_12 : decode cX9_regretsOf 12 = .ok (.getfield 107, 3) := by decide +kernel
theorem dX9_regretsOf_15 : decode cX9_regretsOf 15 = .ok (.if_icmp .ge 26, 3) := by decide +kernel
theorem dX9_regretsOf_18 : decode cX9_regretsOf 18 = .ok (.iload_n 3, 1) := by decide +kernel
theorem dX9_regretsOf_19 : decode cX9_regretsOf 19 = .ok (.aload_n 0, 1) := by decide +kernel
theorem dX9_regretsOf_20 : decode cX9_regretsOf 20 = .ok (.iload 4, 2) := by decide +kernel
theorem dX9_regretsOf_22 : decode cX9_regretsOf 22 = .ok (.invokevirtual 179, 3) := by decide +kernel
theorem dX9_regretsOf_25 : decode cX9_regretsOf 25 = .ok (.ifCond .ne 7, 3) := by decide +kernel
theorem dX9_regretsOf_28 : decode cX9_regretsOf 28 = .ok (.iconst 1, 1) := by decide +kernel
theorem dX9_regretsOf_29 : decode cX9_regretsOf 29 = .ok (.goto 4, 3) := by decide +kernel
theorem dX9_regretsOf_32 : decode cX9_regretsOf 32 = .ok (.iconst 0, 1) := by decide +kernel
theorem dX9_regretsOf_33 : decode cX9_regretsOf 33 = .ok (.iadd, 1) := by decide +kernel
theorem dX9_regretsOf_34 : decode cX9_regretsOf 34 = .ok (.istore_n 3, 1) := by decide +kernel
theorem dX9_regretsOf_35 : decode cX9_regretsOf 35 = .ok (.iinc 4 1, 3) := by decide +kernel
theorem dX9_regretsOf_38 : decode cX9_regretsOf 38 = .ok (.goto (-29), 3) := by decide +kernel
theorem dX9_regretsOf_41 : decode cX9_regretsOf 41 = .ok (.iload_n 1, 1) := by decide +kernel
theorem dX9_regretsOf_42 : decode cX9_regretsOf 42 = .ok (.aload_n 0, 1) := by decide +kernel
theorem dX9_regretsOf_43 : decode cX9_regretsOf 43 = .ok (.getfield 107, 3) := by decide +kernel
theorem dX9_regretsOf_46 : decode cX9_regretsOf 46 = .ok (.if_icmp .le 11, 3) := by decide +kernel
theorem dX9_regretsOf_49 : decode cX9_regretsOf 49 = .ok (.bipush (-3), 2) := by decide +kernel
theorem dX9_regretsOf_51 : decode cX9_regretsOf 51 = .ok (.invokestatic 229, 3) := by decide +kernel
theorem dX9_regretsOf_54 : decode cX9_regretsOf 54 = .ok (.goto 20, 3) := by decide +kernel
theorem dX9_regretsOf_57 : decode cX9_regretsOf 57 = .ok (.iload_n 3, 1) := by decide +kernel
theorem dX9_regretsOf_58 : decode cX9_regretsOf 58 = .ok (.iload_n 1, 1) := by decide +kernel
theorem dX9_regretsOf_59 : decode cX9_regretsOf 59 = .ok (.invokestatic 267, 3) := by decide +kernel
theorem dX9_regretsOf_62 : decode cX9_regretsOf 62 = .ok (.aload_n 0, 1) := by decide +kernel
theorem dX9_regretsOf_63 : decode cX9_regretsOf 63 = .ok (.getfield 107, 3) := by decide +kernel
theorem dX9_regretsOf_66 : decode cX9_regretsOf 66 = .ok (.iload_n 1, 1) := by decide +kernel
theorem dX9_regretsOf_67 : decode cX9_regretsOf 67 = .ok (.invokestatic 267, 3) := by decide +kernel
theorem dX9_regretsOf_70 : decode cX9_regretsOf 70 = .ok (.iload_n 2, 1) := by decide +kernel
theorem dX9_regretsOf_71 : decode cX9_regretsOf 71 = .ok (.invokestatic 235, 3) := by decide +kernel
theorem dX9_regretsOf_74 : decode cX9_regretsOf 74 = .ok (.lreturn, 1) := by decide +kernel
theorem dX9_regrets_0 : decode cX9_regrets 0 = .ok (.iload_n 1, 1) := by decide +kernel
theorem dX9_regrets_1 : decode cX9_regrets 1 = .ok (.iconst 0, 1) := by decide +kernel
theorem dX9_regrets_2 : decode cX9_regrets 2 = .ok (.bipush 8, 2) := by decide +kernel
theorem dX9_regrets_4 : decode cX9_regrets 4 = .ok (.invokestatic 103, 3) := by decide +kernel
theorem dX9_regrets_7 : decode cX9_regrets 7 = .ok (.ifCond .eq 21, 3) := by decide +kernel
theorem dX9_regrets_10 : decode cX9_regrets 10 = .ok (.iload_n 2, 1) := by decide +kernel
theorem dX9_regrets_11 : decode cX9_regrets 11 = .ok (.iconst 0, 1) := by decide +kernel
theorem dX9_regrets_12 : decode cX9_regrets 12 = .ok (.iconst 1, 1) := by decide +kernel
theorem dX9_regrets_13 : decode cX9_regrets 13 = .ok (.invokestatic 103, 3) := by decide +kernel
theorem dX9_regrets_16 : decode cX9_regrets 16 = .ok (.ifCond .eq 12, 3) := by decide +kernel
theorem dX9_regrets_19 : decode cX9_regrets 19 = .ok (.aload_n 0, 1) := by decide +kernel
theorem dX9_regrets_20 : decode cX9_regrets 20 = .ok (.iload_n 1, 1) := by decide +kernel
theorem dX9_regrets_21 : decode cX9_regrets 21 = .ok (.iload_n 2, 1) := by decide +kernel
theorem dX9_regrets_22 : decode cX9_regrets 22 = .ok (.invokevirtual 271, 3) := by decide +kernel
theorem dX9_regrets_25 : decode cX9_regrets 25 = .ok (.goto 8, 3) := by decide +kernel
theorem dX9_regrets_28 : decode cX9_regrets 28 = .ok (.bipush (-2), 2) := by decide +kernel
theorem dX9_regrets_30 : decode cX9_regrets 30 = .ok (.invokestatic 229, 3) := by decide +kernel
theorem dX9_regrets_33 : decode cX9_regrets 33 = .ok (.lreturn, 1) := by decide +kernel
theorem dX9_meets_0 : decode cX9_meets 0 = .ok (.aload_n 0, 1) := by decide +kernel
theorem dX9_meets_1 : decode cX9_meets 1 = .ok (.iload_n 1, 1) := by decide +kernel
theorem dX9_meets_2 : decode cX9_meets 2 = .ok (.putfield 274, 3) := by decide +kernel
theorem dX9_meets_5 : decode cX9_meets 5 = .ok (.bipush (-10), 2) := by decide +kernel
theorem dX9_meets_7 : decode cX9_meets 7 = .ok (.iload_n 1, 1) := by decide +kernel
theorem dX9_meets_8 : decode cX9_meets 8 = .ok (.isub, 1) := by decide +kernel
theorem dX9_meets_9 : decode cX9_meets 9 = .ok (.ireturn, 1) := by decide +kernel
theorem dX9_isSheet_0 : decode cX9_isSheet 0 = .ok (.iload_n 0, 1) := by decide +kernel
theorem dX9_isSheet_1 : decode cX9_isSheet 1 = .ok (.iconst 0, 1) := by decide +kernel
theorem dX9_isSheet_2 : decode cX9_isSheet 2 = .ok (.iconst 3, 1) := by decide +kernel
theorem dX9_isSheet_3 : decode cX9_isSheet 3 = .ok (.invokestatic 103, 3) := by decide +kernel
theorem dX9_isSheet_6 : decode cX9_isSheet 6 = .ok (.ireturn, 1) := by decide +kernel
theorem dX9_sheet_0 : decode cX9_sheet 0 = .ok (.iload_n 1, 1) := by decide +kernel
theorem dX9_sheet_1 : decode cX9_sheet 1 = .ok (.invokestatic 158, 3) := by decide +kernel
theorem dX9_sheet_4 : decode cX9_sheet 4 = .ok (.ifCond .eq 18, 3) := by decide +kernel
theorem dX9_sheet_7 : decode cX9_sheet 7 = .ok (.iload_n 2, 1) := by decide +kernel
theorem dX9_sheet_8 : decode cX9_sheet 8 = .ok (.iconst 0, 1) := by decide +kernel
theorem dX9_sheet_9 : decode cX9_sheet 9 = .ok (.iconst 2, 1) := by decide +kernel
theorem dX9_sheet_10 : decode cX9_sheet 10 = .ok (.invokestatic 103, 3) := by decide +kernel
theorem dX9_sheet_13 : decode cX9_sheet 13 = .ok (.ifCond .eq 9, 3) := by decide +kernel
theorem dX9_sheet_16 : decode cX9_sheet 16 = .ok (.iload_n 3, 1) := by decide +kernel
theorem dX9_sheet_17 : decode cX9_sheet 17 = .ok (.bipush 60, 2) := by decide +kernel
theorem dX9_sheet_19 : decode cX9_sheet 19 = .ok (.if_icmp .le 6, 3) := by decide +kernel
theorem dX9_sheet_22 : decode cX9_sheet 22 = .ok (.bipush (-2), 2) := by decide +kernel
theorem dX9_sheet_24 : decode cX9_sheet 24 = .ok (.ireturn, 1) := by decide +kernel
theorem dX9_sheet_25 : decode cX9_sheet 25 = .ok (.iload_n 3, 1) := by decide +kernel
theorem dX9_sheet_26 : decode cX9_sheet 26 = .ok (.ifCond .ge 9, 3) := by decide +kernel
theorem dX9_sheet_29 : decode cX9_sheet 29 = .ok (.aload_n 0, 1) := by decide +kernel
theorem dX9_sheet_30 : decode cX9_sheet 30 = .ok (.iconst 5, 1) := by decide +kernel
theorem dX9_sheet_31 : decode cX9_sheet 31 = .ok (.invokevirtual 161, 3) := by decide +kernel
theorem dX9_sheet_34 : decode cX9_sheet 34 = .ok (.ireturn, 1) := by decide +kernel
theorem dX9_sheet_35 : decode cX9_sheet 35 = .ok (.aload_n 0, 1) := by decide +kernel
theorem dX9_sheet_36 : decode cX9_sheet 36 = .ok (.getfield 85, 3) := by decide +kernel
theorem dX9_sheet_39 : decode cX9_sheet 39 = .ok (.iload_n 1, 1) := by decide +kernel
theorem dX9_sheet_40 : decode cX9_sheet 40 = .ok (.iconst 1, 1) := by decide +kernel
theorem dX9_sheet_41 : decode cX9_sheet 41 = .ok (.bastore, 1) := by decide +kernel
theorem dX9_sheet_42 : decode cX9_sheet 42 = .ok (.aload_n 0, 1) := by decide +kernel
theorem dX9_sheet_43 : decode cX9_sheet 43 = .ok (.getfield 89, 3) := by decide +kernel
theorem dX9_sheet_46 : decode cX9_sheet 46 = .ok (.iload_n 1, 1) := by decide +kernel
theorem dX9_sheet_47 : decode cX9_sheet 47 = .ok (.iload_n 2, 1) := by decide +kernel
theorem dX9_sheet_48 : decode cX9_sheet 48 = .ok (.iastore, 1) := by decide +kernel
theorem dX9_sheet_49 : decode cX9_sheet 49 = .ok (.aload_n 0, 1) := by decide +kernel
theorem dX9_sheet_50 : decode cX9_sheet 50 = .ok (.getfield 92, 3) := by decide +kernel
theorem dX9_sheet_53 : decode cX9_sheet 53 = .ok (.iload_n 1, 1) := by decide +kernel
theorem dX9_sheet_54 : decode cX9_sheet 54 = .ok (.iload_n 3, 1) := by decide +kernel
theorem dX9_sheet_55 : decode cX9_sheet 55 = .ok (.iastore, 1) := by decide +kernel
theorem dX9_sheet_56 : decode cX9_sheet 56 = .ok (.iconst 0, 1) := by decide +kernel
theorem dX9_sheet_57 : decode cX9_sheet 57 = .ok (.istore 4, 2) := by decide +kernel
theorem dX9_sheet_59 : decode cX9_sheet 59 = .ok (.iload 4, 2) := by decide +kernel
theorem dX9_sheet_61 : decode cX9_sheet 61 = .ok (.bipush 60, 2) := by decide +kernel
theorem dX9_sheet_63 : decode cX9_sheet 63 = .ok (.if_icmp .ge 22, 3) := by decide +kernel
theorem dX9_sheet_66 : decode cX9_sheet 66 = .ok (.aload_n 0, 1) := by decide +kernel
theorem dX9_sheet_67 : decode cX9_sheet 67 = .ok (.getfield 95, 3) := by decide +kernel
theorem dX9_sheet_70 : decode cX9_sheet 70 = .ok (.bipush 60, 2) := by decide +kernel
theorem dX9_sheet_72 : decode cX9_sheet 72 = .ok (.iload_n 1, 1) := by decide +kernel
theorem dX9_sheet_73 : decode cX9_sheet 73 = .ok (.imul, 1) := by decide +kernel
theorem dX9_sheet_74 : decode cX9_sheet 74 = .ok (.iload 4, 2) := by decide +kernel
theorem dX9_sheet_76 : decode cX9_sheet 76 = .ok (.iadd, 1) := by decide +kernel
theorem dX9_sheet_77 : decode cX9_sheet 77 = .ok (.iconst 0, 1) := by decide +kernel
theorem dX9_sheet_78 : decode cX9_sheet 78 = .ok (.iastore, 1) := by decide +kernel
theorem dX9_sheet_79 : decode cX9_sheet 79 = .ok (.iinc 4 1, 3) := by decide +kernel
theorem dX9_sheet_82 : decode cX9_sheet 82 = .ok (.goto (-23), 3) := by decide +kernel
theorem dX9_sheet_85 : decode cX9_sheet 85 = .ok (.iload_n 3, 1) := by decide +kernel
theorem dX9_sheet_86 : decode cX9_sheet 86 = .ok (.ireturn, 1) := by decide +kernel
theorem dX9_lose_0 : decode cX9_lose 0 = .ok (.iload_n 1, 1) := by decide +kernel
theorem dX9_lose_1 : decode cX9_lose 1 = .ok (.invokestatic 158, 3) := by decide +kernel
theorem dX9_lose_4 : decode cX9_lose 4 = .ok (.ifCond .ne 6, 3) := by decide +kernel
theorem dX9_lose_7 : decode cX9_lose 7 = .ok (.bipush (-2), 2) := by decide +kernel
theorem dX9_lose_9 : decode cX9_lose 9 = .ok (.ireturn, 1) := by decide +kernel
theorem dX9_lose_10 : decode cX9_lose 10 = .ok (.aload_n 0, 1) := by decide +kernel
theorem dX9_lose_11 : decode cX9_lose 11 = .ok (.getfield 85, 3) := by decide +kernel
theorem dX9_lose_14 : decode cX9_lose 14 = .ok (.iload_n 1, 1) := by decide +kernel
theorem dX9_lose_15 : decode cX9_lose 15 = .ok (.baload, 1) := by decide +kernel
theorem dX9_lose_16 : decode cX9_lose 16 = .ok (.ifCond .ne 9, 3) := by decide +kernel
theorem dX9_lose_19 : decode cX9_lose 19 = .ok (.aload_n 0, 1) := by decide +kernel
theorem dX9_lose_20 : decode cX9_lose 20 = .ok (.iconst 1, 1) := by decide +kernel
theorem dX9_lose_21 : decode cX9_lose 21 = .ok (.invokevirtual 161, 3) := by decide +kernel
theorem dX9_lose_24 : decode cX9_lose 24 = .ok (.ireturn, 1) := by decide +kernel
theorem dX9_lose_25 : decode cX9_lose 25 = .ok (.aload_n 0, 1) := by decide +kernel
theorem dX9_lose_26 : decode cX9_lose 26 = .ok (.getfield 85, 3) := by decide +kernel
theorem dX9_lose_29 : decode cX9_lose 29 = .ok (.iload_n 1, 1) := by decide +kernel
theorem dX9_lose_30 : decode cX9_lose 30 = .ok (.iconst 0, 1) := by decide +kernel
theorem dX9_lose_31 : decode cX9_lose 31 = .ok (.bastore, 1) := by decide +kernel
theorem dX9_lose_32 : decode cX9_lose 32 = .ok (.aload_n 0, 1) := by decide +kernel
theorem dX9_lose_33 : decode cX9_lose 33 = .ok (.getfield 92, 3) := by decide +kernel
theorem dX9_lose_36 : decode cX9_lose 36 = .ok (.iload_n 1, 1) := by decide +kernel
theorem dX9_lose_37 : decode cX9_lose 37 = .ok (.iaload, 1) := by decide +kernel
theorem dX9_lose_38 : decode cX9_lose 38 = .ok (.ireturn, 1) := by decide +kernel
theorem dX9_lacks_0 : decode cX9_lacks 0 = .ok (.aload_n 0, 1) := by decide +kernel
theorem dX9_lacks_1 : decode cX9_lacks 1 = .ok (.getfield 85, 3) := by decide +kernel
theorem dX9_lacks_4 : decode cX9_lacks 4 = .ok (.iload_n 1, 1) := by decide +kernel
theorem dX9_lacks_5 : decode cX9_lacks 5 = .ok (.baload, 1) := by decide +kernel
theorem dX9_lacks_6 : decode cX9_lacks 6 = .ok (.ifCond .ne 7, 3) := by decide +kernel
theorem dX9_lacks_9 : decode cX9_lacks 9 = .ok (.iconst 1, 1) := by decide +kernel
theorem dX9_lacks_10 : decode cX9_lacks 10 = .ok (.goto 38, 3) := by decide +kernel
theorem dX9_lacks_13 : decode cX9_lacks 13 = .ok (.aload_n 0, 1) := by decide +kernel
theorem dX9_lacks_14 : decode cX9_lacks 14 = .ok (.getfield 89, 3) := by decide +kernel
theorem dX9_lacks_17 : decode cX9_lacks 17 = .ok (.iload_n 1, 1) := by decide +kernel
theorem dX9_lacks_18 : decode cX9_lacks 18 = .ok (.iaload, 1) := by decide +kernel
theorem dX9_lacks_19 : decode cX9_lacks 19 = .ok (.iload_n 2, 1) := by decide +kernel
theorem dX9_lacks_20 : decode cX9_lacks 20 = .ok (.if_icmp .eq 7, 3) := by decide +kernel
theorem dX9_lacks_23 : decode cX9_lacks 23 = .ok (.iconst 3, 1) := by decide +kernel
theorem dX9_lacks_24 : decode cX9_lacks 24 = .ok (.goto 24, 3) := by decide +kernel
theorem dX9_lacks_27 : decode cX9_lacks 27 = .ok (.iload_n 3, 1) := by decide +kernel
theorem dX9_lacks_28 : decode cX9_lacks 28 = .ok (.iconst 0, 1) := by decide +kernel
theorem dX9_lacks_29 : decode cX9_lacks 29 = .ok (.aload_n 0, 1) := by decide +kernel
theorem dX9_lacks_30 : decode cX9_lacks 30 = .ok (.getfield 92, 3) := by decide +kernel
theorem dX9_lacks_33 : decode cX9_lacks 33 = .ok (.iload_n 1, 1) := by decide +kernel
theorem dX9_lacks_34 : decode cX9_lacks 34 = .ok (.iaload, 1) := by decide +kernel
theorem dX9_lacks_35 : decode cX9_lacks 35 = .ok (.iconst 1, 1) := by decide +kernel
theorem dX9_lacks_36 : decode cX9_lacks 36 = .ok (.isub, 1) := by decide +kernel
theorem dX9_lacks_37 : decode cX9_lacks 37 = .ok (.invokestatic 103, 3) := by decide +kernel
theorem dX9_lacks_40 : decode cX9_lacks 40 = .ok (.ifCond .eq 7, 3) := by decide +kernel
theorem dX9_lacks_43 : decode cX9_lacks 43 = .ok (.iconst 0, 1) := by decide +kernel
theorem dX9_lacks_44 : decode cX9_lacks 44 = .ok (.goto 4, 3) := by decide +kernel
theorem dX9_lacks_47 : decode cX9_lacks 47 = .ok (.iconst 2, 1) := by decide +kernel
theorem dX9_lacks_48 : decode cX9_lacks 48 = .ok (.ireturn, 1) := by decide +kernel
theorem dX9_keep_0 : decode cX9_keep 0 = .ok (.aload_n 0, 1) := by decide +kernel
theorem dX9_keep_1 : decode cX9_keep 1 = .ok (.getfield 95, 3) := by decide +kernel
theorem dX9_keep_4 : decode cX9_keep 4 = .ok (.bipush 60, 2) := by decide +kernel
theorem dX9_keep_6 : decode cX9_keep 6 = .ok (.iload_n 1, 1) := by decide +kernel
theorem dX9_keep_7 : decode cX9_keep 7 = .ok (.imul, 1) := by decide +kernel
theorem dX9_keep_8 : decode cX9_keep 8 = .ok (.iload_n 2, 1) := by decide +kernel
theorem dX9_keep_9 : decode cX9_keep 9 = .ok (.iadd, 1) := by decide +kernel
theorem dX9_keep_10 : decode cX9_keep 10 = .ok (.aload_n 0, 1) := by decide +kernel
theorem dX9_keep_11 : decode cX9_keep 11 = .ok (.getfield 89, 3) := by decide +kernel
theorem dX9_keep_14 : decode cX9_keep 14 = .ok (.iload_n 1, 1) := by decide +kernel
theorem dX9_keep_15 : decode cX9_keep 15 = .ok (.iaload, 1) := by decide +kernel
theorem dX9_keep_16 : decode cX9_keep 16 = .ok (.ifCond .ne 8, 3) := by decide +kernel
theorem dX9_keep_19 : decode cX9_keep 19 = .ok (.iload_n 3, 1) := by decide +kernel
theorem dX9_keep_20 : decode cX9_keep 20 = .ok (.i2b, 1) := by decide +kernel
theorem dX9_keep_21 : decode cX9_keep 21 = .ok (.goto 19, 3) := by decide +kernel
theorem dX9_keep_24 : decode cX9_keep 24 = .ok (.aload_n 0, 1) := by decide +kernel
theorem dX9_keep_25 : decode cX9_keep 25 = .ok (.getfield 89, 3) := by decide +kernel
theorem dX9_keep_28 : decode cX9_keep 28 = .ok (.iload_n 1, 1) := by decide +kernel
theorem dX9_keep_29 : decode cX9_keep 29 = .ok (.iaload, 1) := by decide +kernel
theorem dX9_keep_30 : decode cX9_keep 30 = .ok (.iconst 1, 1) := by decide +kernel
theorem dX9_keep_31 : decode cX9_keep 31 = .ok (.if_icmp .ne 8, 3) := by decide +kernel
theorem dX9_keep_34 : decode cX9_keep 34 = .ok (.iload_n 3, 1) := by decide +kernel
theorem dX9_keep_35 : decode cX9_keep 35 = .ok (.i2s, 1) := by decide +kernel
theorem dX9_keep_36 : decode cX9_keep 36 = .ok (.goto 4, 3) := by decide +kernel
theorem dX9_keep_39 : decode cX9_keep 39 = .ok (.iload_n 3, 1) := by decide +kernel
theorem dX9_keep_40 : decode cX9_keep 40 = .ok (.iastore, 1) := by decide +kernel
theorem dX9_keep_41 : decode cX9_keep 41 = .ok (.return_, 1) := by decide +kernel
theorem dX9_put_0 : decode cX9_put 0 = .ok (.iload_n 1, 1) := by decide +kernel
theorem dX9_put_1 : decode cX9_put 1 = .ok (.invokestatic 158, 3) := by decide +kernel
theorem dX9_put_4 : decode cX9_put 4 = .ok (.ifCond .eq 12, 3) := by decide +kernel
theorem dX9_put_7 : decode cX9_put 7 = .ok (.iload_n 2, 1) := by decide +kernel
theorem dX9_put_8 : decode cX9_put 8 = .ok (.iconst 0, 1) := by decide +kernel
theorem dX9_put_9 : decode cX9_put 9 = .ok (.iconst 2, 1) := by decide +kernel
theorem dX9_put_10 : decode cX9_put 10 = .ok (.invokestatic 103, 3) := by decide +kernel
theorem dX9_put_13 : decode cX9_put 13 = .ok (.ifCond .ne 6, 3) := by decide +kernel
theorem dX9_put_16 : decode cX9_put 16 = .ok (.bipush (-2), 2) := by decide +kernel
theorem dX9_put_18 : decode cX9_put 18 = .ok (.ireturn, 1) := by decide +kernel
theorem dX9_put_19 : decode cX9_put 19 = .ok (.aload_n 0, 1) := by decide +kernel
theorem dX9_put_20 : decode cX9_put 20 = .ok (.iload_n 1, 1) := by decide +kernel
theorem dX9_put_21 : decode cX9_put 21 = .ok (.iload_n 2, 1) := by decide +kernel
theorem dX9_put_22 : decode cX9_put 22 = .ok (.iload_n 3, 1) := by decide +kernel
theorem dX9_put_23 : decode cX9_put 23 = .ok (.invokevirtual 277, 3) := by decide +kernel
theorem dX9_put_26 : decode cX9_put 26 = .ok (.istore 5, 2) := by decide +kernel
theorem dX9_put_28 : decode cX9_put 28 = .ok (.iload 5, 2) := by decide +kernel
theorem dX9_put_30 : decode cX9_put 30 = .ok (.ifCond .le 10, 3) := by decide +kernel
theorem dX9_put_33 : decode cX9_put 33 = .ok (.aload_n 0, 1) := by decide +kernel
theorem dX9_put_34 : decode cX9_put 34 = .ok (.iload 5, 2) := by decide +kernel
theorem dX9_put_36 : decode cX9_put 36 = .ok (.invokevirtual 161, 3) := by decide +kernel
theorem dX9_put_39 : decode cX9_put 39 = .ok (.ireturn, 1) := by decide +kernel
theorem dX9_put_40 : decode cX9_put 40 = .ok (.aload_n 0, 1) := by decide +kernel
theorem dX9_put_41 : decode cX9_put 41 = .ok (.iload_n 1, 1) := by decide +kernel
theorem dX9_put_42 : decode cX9_put 42 = .ok (.iload_n 3, 1) := by decide +kernel
theorem dX9_put_43 : decode cX9_put 43 = .ok (.iload 4, 2) := by decide +kernel
theorem dX9_put_45 : decode cX9_put 45 = .ok (.invokevirtual 281, 3) := by decide +kernel
theorem dX9_put_48 : decode cX9_put 48 = .ok (.iconst 1, 1) := by decide +kernel
theorem dX9_put_49 : decode cX9_put 49 = .ok (.ireturn, 1) := by decide +kernel
theorem dX9_get_0 : decode cX9_get 0 = .ok (.iload_n 1, 1) := by decide +kernel
theorem dX9_get_1 : decode cX9_get 1 = .ok (.invokestatic 158, 3) := by decide +kernel
theorem dX9_get_4 : decode cX9_get 4 = .ok (.ifCond .eq 12, 3) := by decide +kernel
theorem dX9_get_7 : decode cX9_get 7 = .ok (.iload_n 2, 1) := by decide +kernel
theorem dX9_get_8 : decode cX9_get 8 = .ok (.iconst 0, 1) := by decide +kernel
theorem dX9_get_9 : decode cX9_get 9 = .ok (.iconst 2, 1) := by decide +kernel
theorem dX9_get_10 : decode cX9_get 10 = .ok (.invokestatic 103, 3) := by decide +kernel
theorem dX9_get_13 : decode cX9_get 13 = .ok (.ifCond .ne 7, 3) := by decide +kernel
theorem dX9_get_16 : decode cX9_get 16 = .ok (.ldc_w 285, 3) := by decide +kernel
theorem dX9_get_19 : decode cX9_get 19 = .ok (.ireturn, 1) := by decide +kernel
theorem dX9_get_20 : decode cX9_get 20 = .ok (.aload_n 0, 1) := by decide +kernel
theorem dX9_get_21 : decode cX9_get 21 = .ok (.iload_n 1, 1) := by decide +kernel
theorem dX9_get_22 : decode cX9_get 22 = .ok (.iload_n 2, 1) := by decide +kernel
theorem dX9_get_23 : decode cX9_get 23 = .ok (.iload_n 3, 1) := by decide +kernel
theorem dX9_get_24 : decode cX9_get 24 = .ok (.invokevirtual 277, 3) := by decide +kernel
theorem dX9_get_27 : decode cX9_get 27 = .ok (.istore 4, 2) := by decide +kernel
theorem dX9_get_29 : decode cX9_get 29 = .ok (.iload 4, 2) := by decide +kernel
theorem dX9_get_31 : decode cX9_get 31 = .ok (.ifCond .le 13, 3) := by decide +kernel
theorem dX9_get_34 : decode cX9_get 34 = .ok (.aload_n 0, 1) := by decide +kernel
theorem dX9_get_35 : decode cX9_get 35 = .ok (.iload 4, 2) := by decide +kernel
theorem dX9_get_37 : decode cX9_get 37 = .ok (.putfield 274, 3) := by decide +kernel
theorem dX9_get_40 : decode cX9_get 40 = .ok (.ldc_w 285, 3) := by decide +kernel
theorem dX9_get_43 : decode cX9_get 43 = .ok (.ireturn, 1) := by decide +kernel
theorem dX9_get_44 : decode cX9_get 44 = .ok (.aload_n 0, 1) := by decide +kernel
theorem dX9_get_45 : decode cX9_get 45 = .ok (.getfield 95, 3) := by decide +kernel
theorem dX9_get_48 : decode cX9_get 48 = .ok (.bipush 60, 2) := by decide +kernel
theorem dX9_get_50 : decode cX9_get 50 = .ok (.iload_n 1, 1) := by decide +kernel
theorem dX9_get_51 : decode cX9_get 51 = .ok (.imul, 1) := by decide +kernel
theorem dX9_get_52 : decode cX9_get 52 = .ok (.iload_n 3, 1) := by decide +kernel
theorem dX9_get_53 : decode cX9_get 53 = .ok (.iadd, 1) := by decide +kernel
theorem dX9_get_54 : decode cX9_get 54 = .ok (.iaload, 1) := by decide +kernel
theorem dX9_get_55 : decode cX9_get 55 = .ok (.ireturn, 1) := by decide +kernel
theorem dX9_copy_0 : decode cX9_copy 0 = .ok (.iload_n 1, 1) := by decide +kernel
theorem dX9_copy_1 : decode cX9_copy 1 = .ok (.invokestatic 158, 3) := by decide +kernel
theorem dX9_copy_4 : decode cX9_copy 4 = .ok (.ifCond .eq 10, 3) := by decide +kernel
theorem dX9_copy_7 : decode cX9_copy 7 = .ok (.iload_n 3, 1) := by decide +kernel
theorem dX9_copy_8 : decode cX9_copy 8 = .ok (.invokestatic 158, 3) := by decide +kernel
theorem dX9_copy_11 : decode cX9_copy 11 = .ok (.ifCond .ne 6, 3) := by decide +kernel
theorem dX9_copy_14 : decode cX9_copy 14 = .ok (.bipush (-2), 2) := by decide +kernel
theorem dX9_copy_16 : decode cX9_copy 16 = .ok (.ireturn, 1) := by decide +kernel
theorem dX9_copy_17 : decode cX9_copy 17 = .ok (.aload_n 0, 1) := by decide +kernel
theorem dX9_copy_18 : decode cX9_copy 18 = .ok (.getfield 85, 3) := by decide +kernel
theorem dX9_copy_21 : decode cX9_copy 21 = .ok (.iload_n 1, 1) := by decide +kernel
theorem dX9_copy_22 : decode cX9_copy 22 = .ok (.baload, 1) := by decide +kernel
theorem dX9_copy_23 : decode cX9_copy 23 = .ok (.ifCond .eq 12, 3) := by decide +kernel
theorem dX9_copy_26 : decode cX9_copy 26 = .ok (.aload_n 0, 1) := by decide +kernel
theorem dX9_copy_27 : decode cX9_copy 27 = .ok (.getfield 85, 3) := by decide +kernel
theorem dX9_copy_30 : decode cX9_copy 30 = .ok (.iload_n 3, 1) := by decide +kernel
theorem dX9_copy_31 : decode cX9_copy 31 = .ok (.baload, 1) := by decide +kernel
theorem dX9_copy_32 : decode cX9_copy 32 = .ok (.ifCond .ne 9, 3) := by decide +kernel
theorem dX9_copy_35 : decode cX9_copy 35 = .ok (.aload_n 0, 1) := by decide +kernel
theorem dX9_copy_36 : decode cX9_copy 36 = .ok (.iconst 1, 1) := by decide +kernel
theorem dX9_copy_37 : decode cX9_copy 37 = .ok (.invokevirtual 161, 3) := by decide +kernel
theorem dX9_copy_40 : decode cX9_copy 40 = .ok (.ireturn, 1) := by decide +kernel
theorem dX9_copy_41 : decode cX9_copy 41 = .ok (.aload_n 0, 1) := by decide +kernel
theorem dX9_copy_42 : decode cX9_copy 42 = .ok (.getfield 89, 3) := by decide +kernel
theorem dX9_copy_45 : decode cX9_copy 45 = .ok (.iload_n 1, 1) := by decide +kernel
theorem dX9_copy_46 : decode cX9_copy 46 = .ok (.iaload, 1) := by decide +kernel
theorem dX9_copy_47 : decode cX9_copy 47 = .ok (.aload_n 0, 1) := by decide +kernel
theorem dX9_copy_48 : decode cX9_copy 48 = .ok (.getfield 89, 3) := by decide +kernel
theorem dX9_copy_51 : decode cX9_copy 51 = .ok (.iload_n 3, 1) := by decide +kernel
theorem dX9_copy_52 : decode cX9_copy 52 = .ok (.iaload, 1) := by decide +kernel
theorem dX9_copy_53 : decode cX9_copy 53 = .ok (.if_icmp .eq 9, 3) := by decide +kernel
theorem dX9_copy_56 : decode cX9_copy 56 = .ok (.aload_n 0, 1) := by decide +kernel
theorem dX9_copy_57 : decode cX9_copy 57 = .ok (.iconst 4, 1) := by decide +kernel
theorem dX9_copy_58 : decode cX9_copy 58 = .ok (.invokevirtual 161, 3) := by decide +kernel
theorem dX9_copy_61 : decode cX9_copy 61 = .ok (.ireturn, 1) := by decide +kernel
theorem dX9_copy_62 : decode cX9_copy 62 = .ok (.iload_n 2, 1) := by decide +kernel
theorem dX9_copy_63 : decode cX9_copy 63 = .ok (.ifCond .lt 48, 3) := by decide +kernel
theorem dX9_copy_66 : decode cX9_copy 66 = .ok (.iload 4, 2) := by decide +kernel
theorem dX9_copy_68 : decode cX9_copy 68 = .ok (.ifCond .lt 43, 3) := by decide +kernel
theorem dX9_copy_71 : decode cX9_copy 71 = .ok (.iload 5, 2) := by decide +kernel
theorem dX9_copy_73 : decode cX9_copy 73 = .ok (.ifCond .lt 38, 3) := by decide +kernel
theorem dX9_copy_76 : decode cX9_copy 76 = .ok (.iload_n 2, 1) := by decide +kernel
theorem dX9_copy_77 : decode cX9_copy 77 = .ok (.i2l, 1) := by decide +kernel
theorem dX9_copy_78 : decode cX9_copy 78 = .ok (.iload 5, 2) := by decide +kernel
theorem dX9_copy_80 : decode cX9_copy 80 = .ok (.i2l, 1) := by decide +kernel
theorem dX9_copy_81 : decode cX9_copy 81 = .ok (.ladd, 1) := by decide +kernel
theorem dX9_copy_82 : decode cX9_copy 82 = .ok (.aload_n 0, 1) := by decide +kernel
theorem dX9_copy_83 : decode cX9_copy 83 = .ok (.getfield 92, 3) := by decide +kernel
theorem dX9_copy_86 : decode cX9_copy 86 = .ok (.iload_n 1, 1) := by decide +kernel
theorem dX9_copy_87 : decode cX9_copy 87 = .ok (.iaload, 1) := by decide +kernel
theorem dX9_copy_88 : decode cX9_copy 88 = .ok (.i2l, 1) := by decide +kernel
theorem dX9_copy_89 : decode cX9_copy 89 = .ok (.lcmp, 1) := by decide +kernel
theorem dX9_copy_90 : decode cX9_copy 90 = .ok (.ifCond .gt 21, 3) := by decide +kernel
theorem dX9_copy_93 : decode cX9_copy 93 = .ok (.iload 4, 2) := by decide +kernel
theorem dX9_copy_95 : decode cX9_copy 95 = .ok (.i2l, 1) := by decide +kernel
theorem dX9_copy_96 : decode cX9_copy 96 = .ok (.iload 5, 2) := by decide +kernel
theorem dX9_copy_98 : decode cX9_copy 98 = .ok (.i2l, 1) := by decide +kernel
theorem dX9_copy_99 : decode cX9_copy 99 = .ok (.ladd, 1) := by decide +kernel
theorem dX9_copy_100 : decode cX9_copy 100 = .ok (.aload_n 0, 1) := by decide +kernel
theorem dX9_copy_101 : decode cX9_copy 101 = .ok (.getfield 92, 3) := by decide +kernel
theorem dX9_copy_104 : decode cX9_copy 104 = .ok (.iload_n 3, 1) := by decide +kernel
theorem dX9_copy_105 : decode cX9_copy 105 = .ok (.iaload, 1) := by decide +kernel
theorem dX9_copy_106 : decode cX9_copy 106 = .ok (.i2l, 1) := by decide +kernel
theorem dX9_copy_107 : decode cX9_copy 107 = .ok (.lcmp, 1) := by decide +kernel
theorem dX9_copy_108 : decode cX9_copy 108 = .ok (.ifCond .le 9, 3) := by decide +kernel
theorem dX9_copy_111 : decode cX9_copy 111 = .ok (.aload_n 0, 1) := by decide +kernel
theorem dX9_copy_112 : decode cX9_copy 112 = .ok (.iconst 2, 1) := by decide +kernel
theorem dX9_copy_113 : decode cX9_copy 113 = .ok (.invokevirtual 161, 3) := by decide +kernel
theorem dX9_copy_116 : decode cX9_copy 116 = .ok (.ireturn, 1) := by decide +kernel
theorem dX9_copy_117 : decode cX9_copy 117 = .ok (.iconst 0, 1) := by decide +kernel
theorem dX9_copy_118 : decode cX9_copy 118 = .ok (.istore 6, 2) := by decide +kernel
theorem dX9_copy_120 : decode cX9_copy 120 = .ok (.iload 6, 2) := by decide +kernel
theorem dX9_copy_122 : decode cX9_copy 122 = .ok (.iload 5, 2) := by decide +kernel
theorem dX9_copy_124 : decode cX9_copy 124 = .ok (.if_icmp .ge 30, 3) := by decide +kernel
theorem dX9_copy_127 : decode cX9_copy 127 = .ok (.aload_n 0, 1) := by decide +kernel
theorem dX9_copy_128 : decode cX9_copy 128 = .ok (.getfield 98, 3) := by decide +kernel
theorem dX9_copy_131 : decode cX9_copy 131 = .ok (.iload 6, 2) := by decide +kernel
theorem dX9_copy_133 : decode cX9_copy 133 = .ok (.aload_n 0, 1) := by decide +kernel
theorem dX9_copy_134 : decode cX9_copy 134 = .ok (.getfield 95, 3) := by decide +kernel
theorem dX9_copy_137 : decode cX9_copy 137 = .ok (.bipush 60, 2) := by decide +kernel
theorem dX9_copy_139 : decode cX9_copy 139 = .ok (.iload_n 1, 1) := by decide +kernel
theorem dX9_copy_140 : decode cX9_copy 140 = .ok (.imul, 1) := by decide +kernel
theorem dX9_copy_141 : decode cX9_copy 141 = .ok (.iload_n 2, 1) := by decide +kernel
theorem dX9_copy_142 : decode cX9_copy 142 = .ok (.iadd, 1) := by decide +kernel
theorem dX9_copy_143 : decode cX9_copy 143 = .ok (.iload 6, 2) := by decide +kernel
theorem dX9_copy_145 : decode cX9_copy 145 = .ok (.iadd, 1) := by decide +kernel
theorem dX9_copy_146 : decode cX9_copy 146 = .ok (.iaload, 1) := by decide +kernel
theorem dX9_copy_147 : decode cX9_copy 147 = .ok (.iastore, 1) := by decide +kernel
theorem dX9_copy_148 : decode cX9_copy 148 = .ok (.iinc 6 1, 3) := by decide +kernel
theorem dX9_copy_151 : decode cX9_copy 151 = .ok (.goto (-31), 3) := by decide +kernel
theorem dX9_copy_154 : decode cX9_copy 154 = .ok (.iconst 0, 1) := by decide +kernel
theorem dX9_copy_155 : decode cX9_copy 155 = .ok (.istore 6, 2) := by decide +kernel
theorem dX9_copy_157 : decode cX9_copy 157 = .ok (.iload 6, 2) := by decide +kernel
theorem dX9_copy_159 : decode cX9_copy 159 = .ok (.iload 5, 2) := by decide +kernel
theorem dX9_copy_161 : decode cX9_copy 161 = .ok (.if_icmp .ge 31, 3) := by decide +kernel
theorem dX9_copy_164 : decode cX9_copy 164 = .ok (.aload_n 0, 1) := by decide +kernel
theorem dX9_copy_165 : decode cX9_copy 165 = .ok (.getfield 95, 3) := by decide +kernel
theorem dX9_copy_168 : decode cX9_copy 168 = .ok (.bipush 60, 2) := by decide +kernel
theorem dX9_copy_170 : decode cX9_copy 170 = .ok (.iload_n 3, 1) := by decide +kernel
theorem dX9_copy_171 : decode cX9_copy 171 = .ok (.imul, 1) := by decide +kernel
theorem dX9_copy_172 : decode cX9_copy 172 = .ok (.iload 4, 2) := by decide +kernel
theorem dX9_copy_174 : decode cX9_copy 174 = .ok (.iadd, 1) := by decide +kernel
theorem dX9_copy_175 : decode cX9_copy 175 = .ok (.iload 6, 2) := by decide +kernel
theorem dX9_copy_177 : decode cX9_copy 177 = .ok (.iadd, 1) := by decide +kernel
theorem dX9_copy_178 : decode cX9_copy 178 = .ok (.aload_n 0, 1) := by decide +kernel
theorem dX9_copy_179 : decode cX9_copy 179 = .ok (.getfield 98, 3) := by decide +kernel
theorem dX9_copy_182 : decode cX9_copy 182 = .ok (.iload 6, 2) := by decide +kernel
theorem dX9_copy_184 : decode cX9_copy 184 = .ok (.iaload, 1) := by decide +kernel
theorem dX9_copy_185 : decode cX9_copy 185 = .ok (.iastore, 1) := by decide +kernel
theorem dX9_copy_186 : decode cX9_copy 186 = .ok (.iinc 6 1, 3) := by decide +kernel
theorem dX9_copy_189 : decode cX9_copy 189 = .ok (.goto (-32), 3) := by decide +kernel
theorem dX9_copy_192 : decode cX9_copy 192 = .ok (.iconst 1, 1) := by decide +kernel
theorem dX9_copy_193 : decode cX9_copy 193 = .ok (.ireturn, 1) := by decide +kernel
theorem dX9_write_0 : decode cX9_write 0 = .ok (.iload_n 1, 1) := by decide +kernel
theorem dX9_write_1 : decode cX9_write 1 = .ok (.invokestatic 158, 3) := by decide +kernel
theorem dX9_write_4 : decode cX9_write 4 = .ok (.ifCond .ne 6, 3) := by decide +kernel
theorem dX9_write_7 : decode cX9_write 7 = .ok (.bipush (-2), 2) := by decide +kernel
theorem dX9_write_9 : decode cX9_write 9 = .ok (.ireturn, 1) := by decide +kernel
theorem dX9_write_10 : decode cX9_write 10 = .ok (.aload_n 0, 1) := by decide +kernel
theorem dX9_write_11 : decode cX9_write 11 = .ok (.getfield 85, 3) := by decide +kernel
theorem dX9_write_14 : decode cX9_write 14 = .ok (.iload_n 1, 1) := by decide +kernel
theorem dX9_write_15 : decode cX9_write 15 = .ok (.baload, 1) := by decide +kernel
theorem dX9_write_16 : decode cX9_write 16 = .ok (.ifCond .ne 9, 3) := by decide +kernel
theorem dX9_write_19 : decode cX9_write 19 = .ok (.aload_n 0, 1) := by decide +kernel
theorem dX9_write_20 : decode cX9_write 20 = .ok (.iconst 1, 1) := by decide +kernel
theorem dX9_write_21 : decode cX9_write 21 = .ok (.invokevirtual 161, 3) := by decide +kernel
theorem dX9_write_24 : decode cX9_write 24 = .ok (.ireturn, 1) := by decide +kernel
theorem dX9_write_25 : decode cX9_write 25 = .ok (.aload_n 0, 1) := by decide +kernel
theorem dX9_write_26 : decode cX9_write 26 = .ok (.invokevirtual 211, 3) := by decide +kernel
theorem dX9_write_29 : decode cX9_write 29 = .ok (.iconst 0, 1) := by decide +kernel
theorem dX9_write_30 : decode cX9_write 30 = .ok (.istore_n 2, 1) := by decide +kernel
theorem dX9_write_31 : decode cX9_write 31 = .ok (.iload_n 2, 1) := by decide +kernel
theorem dX9_write_32 : decode cX9_write 32 = .ok (.aload_n 0, 1) := by decide +kernel
theorem dX9_write_33 : decode cX9_write 33 = .ok (.getfield 92, 3) := by decide +kernel
theorem dX9_write_36 : decode cX9_write 36 = .ok (.iload_n 1, 1) := by decide +kernel
theorem dX9_write_37 : decode cX9_write 37 = .ok (.iaload, 1) := by decide +kernel
theorem dX9_write_38 : decode cX9_write 38 = .ok (.if_icmp .ge 29, 3) := by decide +kernel
theorem dX9_write_41 : decode cX9_write 41 = .ok (.iload_n 2, 1) := by decide +kernel
theorem dX9_write_42 : decode cX9_write 42 = .ok (.aload_n 0, 1) := by decide +kernel
theorem dX9_write_43 : decode cX9_write 43 = .ok (.getfield 107, 3) := by decide +kernel
theorem dX9_write_46 : decode cX9_write 46 = .ok (.if_icmp .ge 21, 3) := by decide +kernel
theorem dX9_write_49 : decode cX9_write 49 = .ok (.aload_n 0, 1) := by decide +kernel
theorem dX9_write_50 : decode cX9_write 50 = .ok (.iload_n 1, 1) := by decide +kernel
theorem dX9_write_51 : decode cX9_write 51 = .ok (.iload_n 2, 1) := by decide +kernel
theorem dX9_write_52 : decode cX9_write 52 = .ok (.aload_n 0, 1) := by decide +kernel
theorem dX9_write_53 : decode cX9_write 53 = .ok (.getfield 67, 3) := by decide +kernel
theorem dX9_write_56 : decode cX9_write 56 = .ok (.iload_n 2, 1) := by decide +kernel
theorem dX9_write_57 : decode cX9_write 57 = .ok (.iaload, 1) := by decide +kernel
theorem dX9_write_58 : decode cX9_write 58 = .ok (.invokevirtual 281, 3) := by decide +kernel
theorem dX9_write_61 : decode cX9_write 61 = .ok (.iinc 2 1, 3) := by decide +kernel
theorem dX9_write_64 : decode cX9_write 64 = .ok (.goto (-33), 3) := by decide +kernel
theorem dX9_write_67 : decode cX9_write 67 = .ok (.iload_n 2, 1) := by decide +kernel
theorem dX9_write_68 : decode cX9_write 68 = .ok (.ireturn, 1) := by decide +kernel
theorem dX9_sumOf_0 : decode cX9_sumOf 0 = .ok (.aload_n 0, 1) := by decide +kernel
theorem dX9_sumOf_1 : decode cX9_sumOf 1 = .ok (.invokevirtual 258, 3) := by decide +kernel
theorem dX9_sumOf_4 : decode cX9_sumOf 4 = .ok (.istore_n 2, 1) := by decide +kernel
theorem dX9_sumOf_5 : decode cX9_sumOf 5 = .ok (.iconst 0, 1) := by decide +kernel
theorem dX9_sumOf_6 : decode cX9_sumOf 6 = .ok (.istore_n 3, 1) := by decide +kernel
theorem dX9_sumOf_7 : decode cX9_sumOf 7 = .ok (.iconst 0, 1) := by decide +kernel
theorem dX9_sumOf_8 : decode cX9_sumOf 8 = .ok (.istore 4, 2) := by decide +kernel
theorem dX9_sumOf_10 : decode cX9_sumOf 10 = .ok (.iload 4, 2) := by decide +kernel
theorem dX9_sumOf_12 : decode cX9_sumOf 12 = .ok (.bipush 8, 2) := by decide +kernel
theorem dX9_sumOf_14 : decode cX9_sumOf 14 = .ok (.if_icmp .ge 19, 3) := by decide +kernel
theorem dX9_sumOf_17 : decode cX9_sumOf 17 = .ok (.iload_n 3, 1) := by decide +kernel
theorem dX9_sumOf_18 : decode cX9_sumOf 18 = .ok (.aload_n 0, 1) := by decide +kernel
theorem dX9_sumOf_19 : decode cX9_sumOf 19 = .ok (.getfield 52, 3) := by decide +kernel
theorem dX9_sumOf_22 : decode cX9_sumOf 22 = .ok (.iload 4, 2) := by decide +kernel
theorem dX9_sumOf_24 : decode cX9_sumOf 24 = .ok (.iaload, 1) := by decide +kernel
theorem dX9_sumOf_25 : decode cX9_sumOf 25 = .ok (.iadd, 1) := by decide +kernel
theorem dX9_sumOf_26 : decode cX9_sumOf 26 = .ok (.istore_n 3, 1) := by decide +kernel
theorem dX9_sumOf_27 : decode cX9_sumOf 27 = .ok (.iinc 4 1, 3) := by decide +kernel
theorem dX9_sumOf_30 : decode cX9_sumOf 30 = .ok (.goto (-20), 3) := by decide +kernel
theorem dX9_sumOf_33 : decode cX9_sumOf 33 = .ok (.iload_n 1, 1) := by decide +kernel
theorem dX9_sumOf_34 : decode cX9_sumOf 34 = .ok (.ifCond .ne 10, 3) := by decide +kernel
theorem dX9_sumOf_37 : decode cX9_sumOf 37 = .ok (.aload_n 0, 1) := by decide +kernel
theorem dX9_sumOf_38 : decode cX9_sumOf 38 = .ok (.getfield 107, 3) := by decide +kernel
theorem dX9_sumOf_41 : decode cX9_sumOf 41 = .ok (.goto 30, 3) := by decide +kernel
theorem dX9_sumOf_44 : decode cX9_sumOf 44 = .ok (.iload_n 1, 1) := by decide +kernel
theorem dX9_sumOf_45 : decode cX9_sumOf 45 = .ok (.iconst 3, 1) := by decide +kernel
theorem dX9_sumOf_46 : decode cX9_sumOf 46 = .ok (.if_icmp .ne 10, 3) := by decide +kernel
theorem dX9_sumOf_49 : decode cX9_sumOf 49 = .ok (.aload_n 0, 1) := by decide +kernel
theorem dX9_sumOf_50 : decode cX9_sumOf 50 = .ok (.getfield 123, 3) := by decide +kernel
theorem dX9_sumOf_53 : decode cX9_sumOf 53 = .ok (.goto 18, 3) := by decide +kernel
theorem dX9_sumOf_56 : decode cX9_sumOf 56 = .ok (.iload_n 1, 1) := by decide +kernel
theorem dX9_sumOf_57 : decode cX9_sumOf 57 = .ok (.bipush 6, 2) := by decide +kernel
theorem dX9_sumOf_59 : decode cX9_sumOf 59 = .ok (.if_icmp .ne 11, 3) := by decide +kernel
theorem dX9_sumOf_62 : decode cX9_sumOf 62 = .ok (.aload_n 0, 1) := by decide +kernel
theorem dX9_sumOf_63 : decode cX9_sumOf 63 = .ok (.iload_n 2, 1) := by decide +kernel
theorem dX9_sumOf_64 : decode cX9_sumOf 64 = .ok (.invokevirtual 195, 3) := by decide +kernel
theorem dX9_sumOf_67 : decode cX9_sumOf 67 = .ok (.goto 4, 3) := by decide +kernel
theorem dX9_sumOf_70 : decode cX9_sumOf 70 = .ok (.iload_n 3, 1) := by decide +kernel
theorem dX9_sumOf_71 : decode cX9_sumOf 71 = .ok (.ireturn, 1) := by decide +kernel
theorem dX9_count_0 : decode cX9_count 0 = .ok (.iload_n 1, 1) := by decide +kernel
theorem dX9_count_1 : decode cX9_count 1 = .ok (.tableswitch 81 0 8 #[51, 57, 57, 51, 66, 71, 51, 51, 76], 51) := by decide +kernel
theorem dX9_count_52 : decode cX9_count 52 = .ok (.aload_n 0, 1) := by decide +kernel
theorem dX9_count_53 : decode cX9_count 53 = .ok (.iload_n 1, 1) := by decide +kernel
theorem dX9_count_54 : decode cX9_count 54 = .ok (.invokevirtual 286, 3) := by decide +kernel
theorem dX9_count_57 : decode cX9_count 57 = .ok (.ireturn, 1) := by decide +kernel
theorem dX9_count_58 : decode cX9_count 58 = .ok (.aload_n 0, 1) := by decide +kernel
theorem dX9_count_59 : decode cX9_count 59 = .ok (.getfield 7, 3) := by decide +kernel
theorem dX9_count_62 : decode cX9_count 62 = .ok (.iload_n 1, 1) := by decide +kernel
theorem dX9_count_63 : decode cX9_count 63 = .ok (.iconst 1, 1) := by decide +kernel
theorem dX9_count_64 : decode cX9_count 64 = .ok (.isub, 1) := by decide +kernel
theorem dX9_count_65 : decode cX9_count 65 = .ok (.iaload, 1) := by decide +kernel
theorem dX9_count_66 : decode cX9_count 66 = .ok (.ireturn, 1) := by decide +kernel
theorem dX9_count_67 : decode cX9_count 67 = .ok (.aload_n 0, 1) := by decide +kernel
theorem dX9_count_68 : decode cX9_count 68 = .ok (.getfield 243, 3) := by decide +kernel
theorem dX9_count_71 : decode cX9_count 71 = .ok (.ireturn, 1) := by decide +kernel
theorem dX9_count_72 : decode cX9_count 72 = .ok (.aload_n 0, 1) := by decide +kernel
theorem dX9_count_73 : decode cX9_count 73 = .ok (.getfield 255, 3) := by decide +kernel
theorem dX9_count_76 : decode cX9_count 76 = .ok (.ireturn, 1) := by decide +kernel
theorem dX9_count_77 : decode cX9_count 77 = .ok (.aload_n 0, 1) := by decide +kernel
theorem dX9_count_78 : decode cX9_count 78 = .ok (.getfield 274, 3) := by decide +kernel
theorem dX9_count_81 : decode cX9_count 81 = .ok (.ireturn, 1) := by decide +kernel
theorem dX9_count_82 : decode cX9_count 82 = .ok (.bipush (-2), 2) := by decide +kernel
theorem dX9_count_84 : decode cX9_count 84 = .ok (.ireturn, 1) := by decide +kernel
theorem dX9_digest_0 : decode cX9_digest 0 = .ok (.ldc2_w 289, 3) := by decide +kernel
theorem dX9_digest_3 : decode cX9_digest 3 = .ok (.lstore_n 1, 1) := by decide +kernel
theorem dX9_digest_4 : decode cX9_digest 4 = .ok (.iconst 0, 1) := by decide +kernel
theorem dX9_digest_5 : decode cX9_digest 5 = .ok (.istore_n 3, 1) := by decide +kernel
theorem dX9_digest_6 : decode cX9_digest 6 = .ok (.iload_n 3, 1) := by decide +kernel
theorem dX9_digest_7 : decode cX9_digest 7 = .ok (.bipush 8, 2) := by decide +kernel
theorem dX9_digest_9 : decode cX9_digest 9 = .ok (.if_icmp .ge 22, 3) := by decide +kernel
theorem dX9_digest_12 : decode cX9_digest 12 = .ok (.ldc2_w 291, 3) := by decide +kernel
theorem dX9_digest_15 : decode cX9_digest 15 = .ok (.lload_n 1, 1) := by decide +kernel
theorem dX9_digest_16 : decode cX9_digest 16 = .ok (.lmul, 1) := by decide +kernel
theorem dX9_digest_17 : decode cX9_digest 17 = .ok (.aload_n 0, 1) := by decide +kernel
theorem dX9_digest_18 : decode cX9_digest 18 = .ok (.iload_n 3, 1) := by decide +kernel
theorem dX9_digest_19 : decode cX9_digest 19 = .ok (.invokevirtual 293, 3) := by decide +kernel
theorem dX9_digest_22 : decode cX9_digest 22 = .ok (.i2l, 1) := by decide +kernel
theorem dX9_digest_23 : decode cX9_digest 23 = .ok (.ladd, 1) := by decide +kernel
theorem dX9_digest_24 : decode cX9_digest 24 = .ok (.lstore_n 1, 1) := by decide +kernel
theorem dX9_digest_25 : decode cX9_digest 25 = .ok (.iinc 3 1, 3) := by decide +kernel
theorem dX9_digest_28 : decode cX9_digest 28 = .ok (.goto (-22), 3) := by decide +kernel
theorem dX9_digest_31 : decode cX9_digest 31 = .ok (.ldc2_w 291, 3) := by decide +kernel
theorem dX9_digest_34 : decode cX9_digest 34 = .ok (.lload_n 1, 1) := by decide +kernel
theorem dX9_digest_35 : decode cX9_digest 35 = .ok (.lmul, 1) := by decide +kernel
theorem dX9_digest_36 : decode cX9_digest 36 = .ok (.aload_n 0, 1) := by decide +kernel
theorem dX9_digest_37 : decode cX9_digest 37 = .ok (.iconst 0, 1) := by decide +kernel
theorem dX9_digest_38 : decode cX9_digest 38 = .ok (.invokevirtual 136, 3) := by decide +kernel
theorem dX9_digest_41 : decode cX9_digest 41 = .ok (.i2l, 1) := by decide +kernel
theorem dX9_digest_42 : decode cX9_digest 42 = .ok (.ladd, 1) := by decide +kernel
theorem dX9_digest_43 : decode cX9_digest 43 = .ok (.lstore_n 1, 1) := by decide +kernel
theorem dX9_digest_44 : decode cX9_digest 44 = .ok (.ldc2_w 291, 3) := by decide +kernel
theorem dX9_digest_47 : decode cX9_digest 47 = .ok (.lload_n 1, 1) := by decide +kernel
theorem dX9_digest_48 : decode cX9_digest 48 = .ok (.lmul, 1) := by decide +kernel
theorem dX9_digest_49 : decode cX9_digest 49 = .ok (.aload_n 0, 1) := by decide +kernel
theorem dX9_digest_50 : decode cX9_digest 50 = .ok (.iconst 1, 1) := by decide +kernel
theorem dX9_digest_51 : decode cX9_digest 51 = .ok (.invokevirtual 136, 3) := by decide +kernel
theorem dX9_digest_54 : decode cX9_digest 54 = .ok (.i2l, 1) := by decide +kernel
theorem dX9_digest_55 : decode cX9_digest 55 = .ok (.ladd, 1) := by decide +kernel
theorem dX9_digest_56 : decode cX9_digest 56 = .ok (.lstore_n 1, 1) := by decide +kernel
theorem dX9_digest_57 : decode cX9_digest 57 = .ok (.aload_n 0, 1) := by decide +kernel
theorem dX9_digest_58 : decode cX9_digest 58 = .ok (.invokevirtual 211, 3) := by decide +kernel
theorem dX9_digest_61 : decode cX9_digest 61 = .ok (.iconst 0, 1) := by decide +kernel
theorem dX9_digest_62 : decode cX9_digest 62 = .ok (.istore_n 3, 1) := by decide +kernel
theorem dX9_digest_63 : decode cX9_digest 63 = .ok (.iload_n 3, 1) := by decide +kernel
theorem dX9_digest_64 : decode cX9_digest 64 = .ok (.aload_n 0, 1) := by decide +kernel
theorem dX9_digest_65 : decode cX9_digest 65 = .ok (.getfield 107, 3) := by decide +kernel
theorem dX9_digest_68 : decode cX9_digest 68 = .ok (.if_icmp .ge 137, 3) := by decide +kernel
theorem dX9_digest_71 : decode cX9_digest 71 = .ok (.iconst 0, 1) := by decide +kernel
theorem dX9_digest_72 : decode cX9_digest 72 = .ok (.istore 4, 2) := by decide +kernel
theorem dX9_digest_74 : decode cX9_digest 74 = .ok (.iload 4, 2) := by decide +kernel
theorem dX9_digest_76 : decode cX9_digest 76 = .ok (.iconst 5, 1) := by decide +kernel
theorem dX9_digest_77 : decode cX9_digest 77 = .ok (.if_icmp .ge 24, 3) := by decide +kernel
theorem dX9_digest_80 : decode cX9_digest 80 = .ok (.ldc2_w 291, 3) := by decide +kernel
theorem dX9_digest_83 : decode cX9_digest 83 = .ok (.lload_n 1, 1) := by decide +kernel
theorem dX9_digest_84 : decode cX9_digest 84 = .ok (.lmul, 1) := by decide +kernel
theorem dX9_digest_85 : decode cX9_digest 85 = .ok (.aload_n 0, 1) := by decide +kernel
theorem dX9_digest_86 : decode cX9_digest 86 = .ok (.iload_n 3, 1) := by decide +kernel
theorem dX9_digest_87 : decode cX9_digest 87 = .ok (.iload 4, 2) := by decide +kernel
theorem dX9_digest_89 : decode cX9_digest 89 = .ok (.invokevirtual 146, 3) := by decide +kernel
theorem dX9_digest_92 : decode cX9_digest 92 = .ok (.i2l, 1) := by decide +kernel
theorem dX9_digest_93 : decode cX9_digest 93 = .ok (.ladd, 1) := by decide +kernel
theorem dX9_digest_94 : decode cX9_digest 94 = .ok (.lstore_n 1, 1) := by decide +kernel
theorem dX9_digest_95 : decode cX9_digest 95 = .ok (.iinc 4 1, 3) := by decide +kernel
theorem dX9_digest_98 : decode cX9_digest 98 = .ok (.goto (-24), 3) := by decide +kernel
theorem dX9_digest_101 : decode cX9_digest 101 = .ok (.ldc2_w 291, 3) := by decide +kernel
theorem dX9_digest_104 : decode cX9_digest 104 = .ok (.lload_n 1, 1) := by decide +kernel
theorem dX9_digest_105 : decode cX9_digest 105 = .ok (.lmul, 1) := by decide +kernel
theorem dX9_digest_106 : decode cX9_digest 106 = .ok (.aload_n 0, 1) := by decide +kernel
theorem dX9_digest_107 : decode cX9_digest 107 = .ok (.iload_n 3, 1) := by decide +kernel
theorem dX9_digest_108 : decode cX9_digest 108 = .ok (.invokevirtual 179, 3) := by decide +kernel
theorem dX9_digest_111 : decode cX9_digest 111 = .ok (.i2l, 1) := by decide +kernel
theorem dX9_digest_112 : decode cX9_digest 112 = .ok (.ladd, 1) := by decide +kernel
theorem dX9_digest_113 : decode cX9_digest 113 = .ok (.lstore_n 1, 1) := by decide +kernel
theorem dX9_digest_114 : decode cX9_digest 114 = .ok (.ldc2_w 291, 3) := by decide +kernel
theorem dX9_digest_117 : decode cX9_digest 117 = .ok (.lload_n 1, 1) := by decide +kernel
theorem dX9_digest_118 : decode cX9_digest 118 = .ok (.lmul, 1) := by decide +kernel
theorem dX9_digest_119 : decode cX9_digest 119 = .ok (.aload_n 0, 1) := by decide +kernel
theorem dX9_digest_120 : decode cX9_digest 120 = .ok (.iload_n 3, 1) := by decide +kernel
theorem dX9_digest_121 : decode cX9_digest 121 = .ok (.iconst 2, 1) := by decide +kernel
theorem dX9_digest_122 : decode cX9_digest 122 = .ok (.invokevirtual 185, 3) := by decide +kernel
theorem dX9_digest_125 : decode cX9_digest 125 = .ok (.i2l, 1) := by decide +kernel
theorem dX9_digest_126 : decode cX9_digest 126 = .ok (.ladd, 1) := by decide +kernel
theorem dX9_digest_127 : decode cX9_digest 127 = .ok (.lstore_n 1, 1) := by decide +kernel
theorem dX9_digest_128 : decode cX9_digest 128 = .ok (.ldc2_w 291, 3) := by decide +kernel
theorem dX9_digest_131 : decode cX9_digest 131 = .ok (.lload_n 1, 1) := by decide +kernel
theorem dX9_digest_132 : decode cX9_digest 132 = .ok (.lmul, 1) := by decide +kernel
theorem dX9_digest_133 : decode cX9_digest 133 = .ok (.aload_n 0, 1) := by decide +kernel
theorem dX9_digest_134 : decode cX9_digest 134 = .ok (.iload_n 3, 1) := by decide +kernel
theorem dX9_digest_135 : decode cX9_digest 135 = .ok (.iconst 2, 1) := by decide +kernel
theorem dX9_digest_136 : decode cX9_digest 136 = .ok (.invokevirtual 226, 3) := by decide +kernel
theorem dX9_digest_139 : decode cX9_digest 139 = .ok (.i2l, 1) := by decide +kernel
theorem dX9_digest_140 : decode cX9_digest 140 = .ok (.ladd, 1) := by decide +kernel
theorem dX9_digest_141 : decode cX9_digest 141 = .ok (.lstore_n 1, 1) := by decide +kernel
theorem dX9_digest_142 : decode cX9_digest 142 = .ok (.ldc2_w 291, 3) := by decide +kernel
theorem dX9_digest_145 : decode cX9_digest 145 = .ok (.lload_n 1, 1) := by decide +kernel
theorem dX9_digest_146 : decode cX9_digest 146 = .ok (.lmul, 1) := by decide +kernel
theorem dX9_digest_147 : decode cX9_digest 147 = .ok (.aload_n 0, 1) := by decide +kernel
theorem dX9_digest_148 : decode cX9_digest 148 = .ok (.iload_n 3, 1) := by decide +kernel
theorem dX9_digest_149 : decode cX9_digest 149 = .ok (.iconst 2, 1) := by decide +kernel
theorem dX9_digest_150 : decode cX9_digest 150 = .ok (.iconst 0, 1) := by decide +kernel
theorem dX9_digest_151 : decode cX9_digest 151 = .ok (.invokevirtual 239, 3) := by decide +kernel
theorem dX9_digest_154 : decode cX9_digest 154 = .ok (.ladd, 1) := by decide +kernel
theorem dX9_digest_155 : decode cX9_digest 155 = .ok (.lstore_n 1, 1) := by decide +kernel
theorem dX9_digest_156 : decode cX9_digest 156 = .ok (.ldc2_w 291, 3) := by decide +kernel
theorem dX9_digest_159 : decode cX9_digest 159 = .ok (.lload_n 1, 1) := by decide +kernel
theorem dX9_digest_160 : decode cX9_digest 160 = .ok (.lmul, 1) := by decide +kernel
theorem dX9_digest_161 : decode cX9_digest 161 = .ok (.aload_n 0, 1) := by decide +kernel
theorem dX9_digest_162 : decode cX9_digest 162 = .ok (.iload_n 3, 1) := by decide +kernel
theorem dX9_digest_163 : decode cX9_digest 163 = .ok (.iconst 2, 1) := by decide +kernel
theorem dX9_digest_164 : decode cX9_digest 164 = .ok (.iconst 1, 1) := by decide +kernel
theorem dX9_digest_165 : decode cX9_digest 165 = .ok (.invokevirtual 239, 3) := by decide +kernel
theorem dX9_digest_168 : decode cX9_digest 168 = .ok (.ladd, 1) := by decide +kernel
theorem dX9_digest_169 : decode cX9_digest 169 = .ok (.lstore_n 1, 1) := by decide +kernel
theorem dX9_digest_170 : decode cX9_digest 170 = .ok (.ldc2_w 291, 3) := by decide +kernel
theorem dX9_digest_173 : decode cX9_digest 173 = .ok (.lload_n 1, 1) := by decide +kernel
theorem dX9_digest_174 : decode cX9_digest 174 = .ok (.lmul, 1) := by decide +kernel
theorem dX9_digest_175 : decode cX9_digest 175 = .ok (.aload_n 0, 1) := by decide +kernel
theorem dX9_digest_176 : decode cX9_digest 176 = .ok (.getfield 67, 3) := by decide +kernel
theorem dX9_digest_179 : decode cX9_digest 179 = .ok (.iload_n 3, 1) := by decide +kernel
theorem dX9_digest_180 : decode cX9_digest 180 = .ok (.iaload, 1) := by decide +kernel
theorem dX9_digest_181 : decode cX9_digest 181 = .ok (.i2l, 1) := by decide +kernel
theorem dX9_digest_182 : decode cX9_digest 182 = .ok (.ladd, 1) := by decide +kernel
theorem dX9_digest_183 : decode cX9_digest 183 = .ok (.lstore_n 1, 1) := by decide +kernel
theorem dX9_digest_184 : decode cX9_digest 184 = .ok (.ldc2_w 291, 3) := by decide +kernel
theorem dX9_digest_187 : decode cX9_digest 187 = .ok (.lload_n 1, 1) := by decide +kernel
theorem dX9_digest_188 : decode cX9_digest 188 = .ok (.lmul, 1) := by decide +kernel
theorem dX9_digest_189 : decode cX9_digest 189 = .ok (.aload_n 0, 1) := by decide +kernel
theorem dX9_digest_190 : decode cX9_digest 190 = .ok (.iconst 1, 1) := by decide +kernel
theorem dX9_digest_191 : decode cX9_digest 191 = .ok (.iload_n 3, 1) := by decide +kernel
theorem dX9_digest_192 : decode cX9_digest 192 = .ok (.ishl, 1) := by decide +kernel
theorem dX9_digest_193 : decode cX9_digest 193 = .ok (.invokevirtual 261, 3) := by decide +kernel
theorem dX9_digest_196 : decode cX9_digest 196 = .ok (.i2l, 1) := by decide +kernel
theorem dX9_digest_197 : decode cX9_digest 197 = .ok (.ladd, 1) := by decide +kernel
theorem dX9_digest_198 : decode cX9_digest 198 = .ok (.lstore_n 1, 1) := by decide +kernel
theorem dX9_digest_199 : decode cX9_digest 199 = .ok (.iinc 3 1, 3) := by decide +kernel
theorem dX9_digest_202 : decode cX9_digest 202 = .ok (.goto (-139), 3) := by decide +kernel
theorem dX9_digest_205 : decode cX9_digest 205 = .ok (.iconst 0, 1) := by decide +kernel
theorem dX9_digest_206 : decode cX9_digest 206 = .ok (.istore_n 3, 1) := by decide +kernel
theorem dX9_digest_207 : decode cX9_digest 207 = .ok (.iload_n 3, 1) := by decide +kernel
theorem dX9_digest_208 : decode cX9_digest 208 = .ok (.iconst 4, 1) := by decide +kernel
theorem dX9_digest_209 : decode cX9_digest 209 = .ok (.if_icmp .ge 39, 3) := by decide +kernel
theorem dX9_digest_212 : decode cX9_digest 212 = .ok (.iconst 0, 1) := by decide +kernel
theorem dX9_digest_213 : decode cX9_digest 213 = .ok (.istore 4, 2) := by decide +kernel
theorem dX9_digest_215 : decode cX9_digest 215 = .ok (.iload 4, 2) := by decide +kernel
theorem dX9_digest_217 : decode cX9_digest 217 = .ok (.iconst 3, 1) := by decide +kernel
theorem dX9_digest_218 : decode cX9_digest 218 = .ok (.if_icmp .ge 24, 3) := by decide +kernel
theorem dX9_digest_221 : decode cX9_digest 221 = .ok (.ldc2_w 291, 3) := by decide +kernel
theorem dX9_digest_224 : decode cX9_digest 224 = .ok (.lload_n 1, 1) := by decide +kernel
theorem dX9_digest_225 : decode cX9_digest 225 = .ok (.lmul, 1) := by decide +kernel
theorem dX9_digest_226 : decode cX9_digest 226 = .ok (.aload_n 0, 1) := by decide +kernel
theorem dX9_digest_227 : decode cX9_digest 227 = .ok (.iload_n 3, 1) := by decide +kernel
theorem dX9_digest_228 : decode cX9_digest 228 = .ok (.iload 4, 2) := by decide +kernel
theorem dX9_digest_230 : decode cX9_digest 230 = .ok (.invokevirtual 149, 3) := by decide +kernel
theorem dX9_digest_233 : decode cX9_digest 233 = .ok (.i2l, 1) := by decide +kernel
theorem dX9_digest_234 : decode cX9_digest 234 = .ok (.ladd, 1) := by decide +kernel
theorem dX9_digest_235 : decode cX9_digest 235 = .ok (.lstore_n 1, 1) := by decide +kernel
theorem dX9_digest_236 : decode cX9_digest 236 = .ok (.iinc 4 1, 3) := by decide +kernel
theorem dX9_digest_239 : decode cX9_digest 239 = .ok (.goto (-24), 3) := by decide +kernel
theorem dX9_digest_242 : decode cX9_digest 242 = .ok (.iinc 3 1, 3) := by decide +kernel
theorem dX9_digest_245 : decode cX9_digest 245 = .ok (.goto (-38), 3) := by decide +kernel
theorem dX9_digest_248 : decode cX9_digest 248 = .ok (.ldc2_w 291, 3) := by decide +kernel
theorem dX9_digest_251 : decode cX9_digest 251 = .ok (.lload_n 1, 1) := by decide +kernel
theorem dX9_digest_252 : decode cX9_digest 252 = .ok (.lmul, 1) := by decide +kernel
theorem dX9_digest_253 : decode cX9_digest 253 = .ok (.aload_n 0, 1) := by decide +kernel
theorem dX9_digest_254 : decode cX9_digest 254 = .ok (.getfield 205, 3) := by decide +kernel
theorem dX9_digest_257 : decode cX9_digest 257 = .ok (.i2l, 1) := by decide +kernel
theorem dX9_digest_258 : decode cX9_digest 258 = .ok (.ladd, 1) := by decide +kernel
theorem dX9_digest_259 : decode cX9_digest 259 = .ok (.lstore_n 1, 1) := by decide +kernel
theorem dX9_digest_260 : decode cX9_digest 260 = .ok (.ldc2_w 291, 3) := by decide +kernel
theorem dX9_digest_263 : decode cX9_digest 263 = .ok (.lload_n 1, 1) := by decide +kernel
theorem dX9_digest_264 : decode cX9_digest 264 = .ok (.lmul, 1) := by decide +kernel
theorem dX9_digest_265 : decode cX9_digest 265 = .ok (.aload_n 0, 1) := by decide +kernel
theorem dX9_digest_266 : decode cX9_digest 266 = .ok (.getfield 208, 3) := by decide +kernel
theorem dX9_digest_269 : decode cX9_digest 269 = .ok (.i2l, 1) := by decide +kernel
theorem dX9_digest_270 : decode cX9_digest 270 = .ok (.ladd, 1) := by decide +kernel
theorem dX9_digest_271 : decode cX9_digest 271 = .ok (.lstore_n 1, 1) := by decide +kernel
theorem dX9_digest_272 : decode cX9_digest 272 = .ok (.iconst 0, 1) := by decide +kernel
theorem dX9_digest_273 : decode cX9_digest 273 = .ok (.istore_n 3, 1) := by decide +kernel
theorem dX9_digest_274 : decode cX9_digest 274 = .ok (.iload_n 3, 1) := by decide +kernel
theorem dX9_digest_275 : decode cX9_digest 275 = .ok (.iconst 3, 1) := by decide +kernel
theorem dX9_digest_276 : decode cX9_digest 276 = .ok (.if_icmp .ge 22, 3) := by decide +kernel
theorem dX9_digest_279 : decode cX9_digest 279 = .ok (.ldc2_w 291, 3) := by decide +kernel
theorem dX9_digest_282 : decode cX9_digest 282 = .ok (.lload_n 1, 1) := by decide +kernel
theorem dX9_digest_283 : decode cX9_digest 283 = .ok (.lmul, 1) := by decide +kernel
theorem dX9_digest_284 : decode cX9_digest 284 = .ok (.aload_n 0, 1) := by decide +kernel
theorem dX9_digest_285 : decode cX9_digest 285 = .ok (.iload_n 3, 1) := by decide +kernel
theorem dX9_digest_286 : decode cX9_digest 286 = .ok (.invokevirtual 223, 3) := by decide +kernel
theorem dX9_digest_289 : decode cX9_digest 289 = .ok (.i2l, 1) := by decide +kernel
theorem dX9_digest_290 : decode cX9_digest 290 = .ok (.ladd, 1) := by decide +kernel
theorem dX9_digest_291 : decode cX9_digest 291 = .ok (.lstore_n 1, 1) := by decide +kernel
theorem dX9_digest_292 : decode cX9_digest 292 = .ok (.iinc 3 1, 3) := by decide +kernel
theorem dX9_digest_295 : decode cX9_digest 295 = .ok (.goto (-21), 3) := by decide +kernel
theorem dX9_digest_298 : decode cX9_digest 298 = .ok (.ldc2_w 291, 3) := by decide +kernel
theorem dX9_digest_301 : decode cX9_digest 301 = .ok (.lload_n 1, 1) := by decide +kernel
theorem dX9_digest_302 : decode cX9_digest 302 = .ok (.lmul, 1) := by decide +kernel
theorem dX9_digest_303 : decode cX9_digest 303 = .ok (.aload_n 0, 1) := by decide +kernel
theorem dX9_digest_304 : decode cX9_digest 304 = .ok (.iconst 0, 1) := by decide +kernel
theorem dX9_digest_305 : decode cX9_digest 305 = .ok (.invokevirtual 252, 3) := by decide +kernel
theorem dX9_digest_308 : decode cX9_digest 308 = .ok (.i2l, 1) := by decide +kernel
theorem dX9_digest_309 : decode cX9_digest 309 = .ok (.ladd, 1) := by decide +kernel
theorem dX9_digest_310 : decode cX9_digest 310 = .ok (.lstore_n 1, 1) := by decide +kernel
theorem dX9_digest_311 : decode cX9_digest 311 = .ok (.ldc2_w 291, 3) := by decide +kernel
theorem dX9_digest_314 : decode cX9_digest 314 = .ok (.lload_n 1, 1) := by decide +kernel
theorem dX9_digest_315 : decode cX9_digest 315 = .ok (.lmul, 1) := by decide +kernel
theorem dX9_digest_316 : decode cX9_digest 316 = .ok (.aload_n 0, 1) := by decide +kernel
theorem dX9_digest_317 : decode cX9_digest 317 = .ok (.iconst 1, 1) := by decide +kernel
theorem dX9_digest_318 : decode cX9_digest 318 = .ok (.invokevirtual 252, 3) := by decide +kernel
theorem dX9_digest_321 : decode cX9_digest 321 = .ok (.i2l, 1) := by decide +kernel
theorem dX9_digest_322 : decode cX9_digest 322 = .ok (.ladd, 1) := by decide +kernel
theorem dX9_digest_323 : decode cX9_digest 323 = .ok (.lstore_n 1, 1) := by decide +kernel
theorem dX9_digest_324 : decode cX9_digest 324 = .ok (.ldc2_w 291, 3) := by decide +kernel
theorem dX9_digest_327 : decode cX9_digest 327 = .ok (.lload_n 1, 1) := by decide +kernel
theorem dX9_digest_328 : decode cX9_digest 328 = .ok (.lmul, 1) := by decide +kernel
theorem dX9_digest_329 : decode cX9_digest 329 = .ok (.aload_n 0, 1) := by decide +kernel
theorem dX9_digest_330 : decode cX9_digest 330 = .ok (.invokevirtual 264, 3) := by decide +kernel
theorem dX9_digest_333 : decode cX9_digest 333 = .ok (.i2l, 1) := by decide +kernel
theorem dX9_digest_334 : decode cX9_digest 334 = .ok (.ladd, 1) := by decide +kernel
theorem dX9_digest_335 : decode cX9_digest 335 = .ok (.lstore_n 1, 1) := by decide +kernel
theorem dX9_digest_336 : decode cX9_digest 336 = .ok (.ldc2_w 291, 3) := by decide +kernel
theorem dX9_digest_339 : decode cX9_digest 339 = .ok (.lload_n 1, 1) := by decide +kernel
theorem dX9_digest_340 : decode cX9_digest 340 = .ok (.lmul, 1) := by decide +kernel
theorem dX9_digest_341 : decode cX9_digest 341 = .ok (.aload_n 0, 1) := by decide +kernel
theorem dX9_digest_342 : decode cX9_digest 342 = .ok (.iconst 2, 1) := by decide +kernel
theorem dX9_digest_343 : decode cX9_digest 343 = .ok (.iconst 0, 1) := by decide +kernel
theorem dX9_digest_344 : decode cX9_digest 344 = .ok (.invokevirtual 271, 3) := by decide +kernel
theorem dX9_digest_347 : decode cX9_digest 347 = .ok (.ladd, 1) := by decide +kernel
theorem dX9_digest_348 : decode cX9_digest 348 = .ok (.lstore_n 1, 1) := by decide +kernel
theorem dX9_digest_349 : decode cX9_digest 349 = .ok (.ldc2_w 291, 3) := by decide +kernel
theorem dX9_digest_352 : decode cX9_digest 352 = .ok (.lload_n 1, 1) := by decide +kernel
theorem dX9_digest_353 : decode cX9_digest 353 = .ok (.lmul, 1) := by decide +kernel
theorem dX9_digest_354 : decode cX9_digest 354 = .ok (.aload_n 0, 1) := by decide +kernel
theorem dX9_digest_355 : decode cX9_digest 355 = .ok (.iconst 2, 1) := by decide +kernel
theorem dX9_digest_356 : decode cX9_digest 356 = .ok (.iconst 1, 1) := by decide +kernel
theorem dX9_digest_357 : decode cX9_digest 357 = .ok (.invokevirtual 271, 3) := by decide +kernel
theorem dX9_digest_360 : decode cX9_digest 360 = .ok (.ladd, 1) := by decide +kernel
theorem dX9_digest_361 : decode cX9_digest 361 = .ok (.lreturn, 1) := by decide +kernel
theorem dJ6_bitCount_0f7a4_0 : decode cJ6_bitCount_0f7a4 0 = .ok (.iload_n 0, 1) := by decide +kernel
theorem dJ6_bitCount_0f7a4_1 : decode cJ6_bitCount_0f7a4 1 = .ok (.iload_n 0, 1) := by decide +kernel
theorem dJ6_bitCount_0f7a4_2 : decode cJ6_bitCount_0f7a4 2 = .ok (.iconst 1, 1) := by decide +kernel
theorem dJ6_bitCount_0f7a4_3 : decode cJ6_bitCount_0f7a4 3 = .ok (.iushr, 1) := by decide +kernel
theorem dJ6_bitCount_0f7a4_4 : decode cJ6_bitCount_0f7a4 4 = .ok (.ldc_w 265, 3) := by decide +kernel
theorem dJ6_bitCount_0f7a4_7 : decode cJ6_bitCount_0f7a4 7 = .ok (.iand, 1) := by decide +kernel
theorem dJ6_bitCount_0f7a4_8 : decode cJ6_bitCount_0f7a4 8 = .ok (.isub, 1) := by decide +kernel
theorem dJ6_bitCount_0f7a4_9 : decode cJ6_bitCount_0f7a4 9 = .ok (.istore_n 0, 1) := by decide +kernel
theorem dJ6_bitCount_0f7a4_10 : decode cJ6_bitCount_0f7a4 10 = .ok (.iload_n 0, 1) := by decide +kernel
theorem dJ6_bitCount_0f7a4_11 : decode cJ6_bitCount_0f7a4 11 = .ok (.ldc_w 266, 3) := by decide +kernel
theorem dJ6_bitCount_0f7a4_14 : decode cJ6_bitCount_0f7a4 14 = .ok (.iand, 1) := by decide +kernel
theorem dJ6_bitCount_0f7a4_15 : decode cJ6_bitCount_0f7a4 15 = .ok (.iload_n 0, 1) := by decide +kernel
theorem dJ6_bitCount_0f7a4_16 : decode cJ6_bitCount_0f7a4 16 = .ok (.iconst 2, 1) := by decide +kernel
theorem dJ6_bitCount_0f7a4_17 : decode cJ6_bitCount_0f7a4 17 = .ok (.iushr, 1) := by decide +kernel
theorem dJ6_bitCount_0f7a4_18 : decode cJ6_bitCount_0f7a4 18 = .ok (.ldc_w 266, 3) := by decide +kernel
theorem dJ6_bitCount_0f7a4_21 : decode cJ6_bitCount_0f7a4 21 = .ok (.iand, 1) := by decide +kernel
theorem dJ6_bitCount_0f7a4_22 : decode cJ6_bitCount_0f7a4 22 = .ok (.iadd, 1) := by decide +kernel
theorem dJ6_bitCount_0f7a4_23 : decode cJ6_bitCount_0f7a4 23 = .ok (.istore_n 0, 1) := by decide +kernel
theorem dJ6_bitCount_0f7a4_24 : decode cJ6_bitCount_0f7a4 24 = .ok (.iload_n 0, 1) := by decide +kernel
theorem dJ6_bitCount_0f7a4_25 : decode cJ6_bitCount_0f7a4 25 = .ok (.iload_n 0, 1) := by decide +kernel
theorem dJ6_bitCount_0f7a4_26 : decode cJ6_bitCount_0f7a4 26 = .ok (.iconst 4, 1) := by decide +kernel
theorem dJ6_bitCount_0f7a4_27 : decode cJ6_bitCount_0f7a4 27 = .ok (.iushr, 1) := by decide +kernel
theorem dJ6_bitCount_0f7a4_28 : decode cJ6_bitCount_0f7a4 28 = .ok (.iadd, 1) := by decide +kernel
theorem dJ6_bitCount_0f7a4_29 : decode cJ6_bitCount_0f7a4 29 = .ok (.ldc_w 267, 3) := by decide +kernel
theorem dJ6_bitCount_0f7a4_32 : decode cJ6_bitCount_0f7a4 32 = .ok (.iand, 1) := by decide +kernel
theorem dJ6_bitCount_0f7a4_33 : decode cJ6_bitCount_0f7a4 33 = .ok (.istore_n 0, 1) := by decide +kernel
theorem dJ6_bitCount_0f7a4_34 : decode cJ6_bitCount_0f7a4 34 = .ok (.iload_n 0, 1) := by decide +kernel
theorem dJ6_bitCount_0f7a4_35 : decode cJ6_bitCount_0f7a4 35 = .ok (.iload_n 0, 1) := by decide +kernel
theorem dJ6_bitCount_0f7a4_36 : decode cJ6_bitCount_0f7a4 36 = .ok (.bipush 8, 2) := by decide +kernel
theorem dJ6_bitCount_0f7a4_38 : decode cJ6_bitCount_0f7a4 38 = .ok (.iushr, 1) := by decide +kernel
theorem dJ6_bitCount_0f7a4_39 : decode cJ6_bitCount_0f7a4 39 = .ok (.iadd, 1) := by decide +kernel
theorem dJ6_bitCount_0f7a4_40 : decode cJ6_bitCount_0f7a4 40 = .ok (.istore_n 0, 1) := by decide +kernel
theorem dJ6_bitCount_0f7a4_41 : decode cJ6_bitCount_0f7a4 41 = .ok (.iload_n 0, 1) := by decide +kernel
theorem dJ6_bitCount_0f7a4_42 : decode cJ6_bitCount_0f7a4 42 = .ok (.iload_n 0, 1) := by decide +kernel
theorem dJ6_bitCount_0f7a4_43 : decode cJ6_bitCount_0f7a4 43 = .ok (.bipush 16, 2) := by decide +kernel
theorem dJ6_bitCount_0f7a4_45 : decode cJ6_bitCount_0f7a4 45 = .ok (.iushr, 1) := by decide +kernel
theorem dJ6_bitCount_0f7a4_46 : decode cJ6_bitCount_0f7a4 46 = .ok (.iadd, 1) := by decide +kernel
theorem dJ6_bitCount_0f7a4_47 : decode cJ6_bitCount_0f7a4 47 = .ok (.istore_n 0, 1) := by decide +kernel
theorem dJ6_bitCount_0f7a4_48 : decode cJ6_bitCount_0f7a4 48 = .ok (.iload_n 0, 1) := by decide +kernel
theorem dJ6_bitCount_0f7a4_49 : decode cJ6_bitCount_0f7a4 49 = .ok (.bipush 63, 2) := by decide +kernel
theorem dJ6_bitCount_0f7a4_51 : decode cJ6_bitCount_0f7a4 51 = .ok (.iand, 1) := by decide +kernel
theorem dJ6_bitCount_0f7a4_52 : decode cJ6_bitCount_0f7a4 52 = .ok (.ireturn, 1) := by decide +kernel
theorem dJ9_abs_0f7a4_0 : decode cJ9_abs_0f7a4 0 = .ok (.iload_n 0, 1) := by decide +kernel
theorem dJ9_abs_0f7a4_1 : decode cJ9_abs_0f7a4 1 = .ok (.ifCond .ge 8, 3) := by decide +kernel
theorem dJ9_abs_0f7a4_4 : decode cJ9_abs_0f7a4 4 = .ok (.iload_n 0, 1) := by decide +kernel
theorem dJ9_abs_0f7a4_5 : decode cJ9_abs_0f7a4 5 = .ok (.ineg, 1) := by decide +kernel
theorem dJ9_abs_0f7a4_6 : decode cJ9_abs_0f7a4 6 = .ok (.goto 4, 3) := by decide +kernel
theorem dJ9_abs_0f7a4_9 : decode cJ9_abs_0f7a4 9 = .ok (.iload_n 0, 1) := by decide +kernel
theorem dJ9_abs_0f7a4_10 : decode cJ9_abs_0f7a4 10 = .ok (.ireturn, 1) := by decide +kernel
theorem dJ9_max_7cf53_0 : decode cJ9_max_7cf53 0 = .ok (.iload_n 0, 1) := by decide +kernel
theorem dJ9_max_7cf53_1 : decode cJ9_max_7cf53 1 = .ok (.iload_n 1, 1) := by decide +kernel
theorem dJ9_max_7cf53_2 : decode cJ9_max_7cf53 2 = .ok (.if_icmp .lt 7, 3) := by decide +kernel
theorem dJ9_max_7cf53_5 : decode cJ9_max_7cf53 5 = .ok (.iload_n 0, 1) := by decide +kernel
theorem dJ9_max_7cf53_6 : decode cJ9_max_7cf53 6 = .ok (.goto 4, 3) := by decide +kernel
theorem dJ9_max_7cf53_9 : decode cJ9_max_7cf53 9 = .ok (.iload_n 1, 1) := by decide +kernel
theorem dJ9_max_7cf53_10 : decode cJ9_max_7cf53 10 = .ok (.ireturn, 1) := by decide +kernel
theorem dJ9_min_7cf53_0 : decode cJ9_min_7cf53 0 = .ok (.iload_n 0, 1) := by decide +kernel
theorem dJ9_min_7cf53_1 : decode cJ9_min_7cf53 1 = .ok (.iload_n 1, 1) := by decide +kernel
theorem dJ9_min_7cf53_2 : decode cJ9_min_7cf53 2 = .ok (.if_icmp .gt 7, 3) := by decide +kernel
theorem dJ9_min_7cf53_5 : decode cJ9_min_7cf53 5 = .ok (.iload_n 0, 1) := by decide +kernel
theorem dJ9_min_7cf53_6 : decode cJ9_min_7cf53 6 = .ok (.goto 4, 3) := by decide +kernel
theorem dJ9_min_7cf53_9 : decode cJ9_min_7cf53 9 = .ok (.iload_n 1, 1) := by decide +kernel
theorem dJ9_min_7cf53_10 : decode cJ9_min_7cf53 10 = .ok (.ireturn, 1) := by decide +kernel
theorem dL_law_0 : decode cL_law 0 = .ok (.new 7, 3) := by decide +kernel
theorem dL_law_3 : decode cL_law 3 = .ok (.dup, 1) := by decide +kernel
theorem dL_law_4 : decode cL_law 4 = .ok (.invokespecial 9, 3) := by decide +kernel
theorem dL_law_7 : decode cL_law 7 = .ok (.astore_n 1, 1) := by decide +kernel
theorem dL_law_8 : decode cL_law 8 = .ok (.new 10, 3) := by decide +kernel
theorem dL_law_11 : decode cL_law 11 = .ok (.dup, 1) := by decide +kernel
theorem dL_law_12 : decode cL_law 12 = .ok (.invokespecial 12, 3) := by decide +kernel
theorem dL_law_15 : decode cL_law 15 = .ok (.astore_n 2, 1) := by decide +kernel
theorem dL_law_16 : decode cL_law 16 = .ok (.iconst 0, 1) := by decide +kernel
theorem dL_law_17 : decode cL_law 17 = .ok (.istore_n 3, 1) := by decide +kernel
theorem dL_law_18 : decode cL_law 18 = .ok (.iload_n 3, 1) := by decide +kernel
theorem dL_law_19 : decode cL_law 19 = .ok (.aload_n 0, 1) := by decide +kernel
theorem dL_law_20 : decode cL_law 20 = .ok (.arraylength, 1) := by decide +kernel
theorem dL_law_21 : decode cL_law 21 = .ok (.bipush 6, 2) := by decide +kernel
theorem dL_law_23 : decode cL_law 23 = .ok (.isub, 1) := by decide +kernel
theorem dL_law_24 : decode cL_law 24 = .ok (.if_icmp .gt 1295, 3) := by decide +kernel
theorem dL_law_27 : decode cL_law 27 = .ok (.aload_n 0, 1) := by decide +kernel
theorem dL_law_28 : decode cL_law 28 = .ok (.iload_n 3, 1) := by decide +kernel
theorem dL_law_29 : decode cL_law 29 = .ok (.iaload, 1) := by decide +kernel
theorem dL_law_30 : decode cL_law 30 = .ok (.bipush 63, 2) := by decide +kernel
theorem dL_law_32 : decode cL_law 32 = .ok (.iand, 1) := by decide +kernel
theorem dL_law_33 : decode cL_law 33 = .ok (.tableswitch 1280 0 35 #[159, 192, 215, 238, 271, 304, 347, 380, 413, 436, 469, 492, 525, 558, 581, 604, 637, 670, 693, 726, 770, 813, 846, 869, 902, 925, 948, 961, 995, 1038, 1061, 1114, 1157, 1220, 1243, 1266], 159) := by decide +kernel
theorem dL_law_192 : decode cL_law 192 = .ok (.aload_n 1, 1) := by decide +kernel
theorem dL_law_193 : decode cL_law 193 = .ok (.aload_n 0, 1) := by decide +kernel
theorem dL_law_194 : decode cL_law 194 = .ok (.iload_n 3, 1) := by decide +kernel
theorem dL_law_195 : decode cL_law 195 = .ok (.iconst 1, 1) := by decide +kernel
theorem dL_law_196 : decode cL_law 196 = .ok (.iadd, 1) := by decide +kernel
theorem dL_law_197 : decode cL_law 197 = .ok (.iaload, 1) := by decide +kernel
theorem dL_law_198 : decode cL_law 198 = .ok (.aload_n 0, 1) := by decide +kernel
theorem dL_law_199 : decode cL_law 199 = .ok (.iload_n 3, 1) := by decide +kernel
theorem dL_law_200 : decode cL_law 200 = .ok (.iconst 2, 1) := by decide +kernel
theorem dL_law_201 : decode cL_law 201 = .ok (.iadd, 1) := by decide +kernel
theorem dL_law_202 : decode cL_law 202 = .ok (.iaload, 1) := by decide +kernel
theorem dL_law_203 : decode cL_law 203 = .ok (.invokevirtual 13, 3) := by decide +kernel
theorem dL_law_206 : decode cL_law 206 = .ok (.aload_n 2, 1) := by decide +kernel
theorem dL_law_207 : decode cL_law 207 = .ok (.aload_n 0, 1) := by decide +kernel
theorem dL_law_208 : decode cL_law 208 = .ok (.iload_n 3, 1) := by decide +kernel
theorem dL_law_209 : decode cL_law 209 = .ok (.iconst 1, 1) := by decide +kernel
theorem dL_law_210 : decode cL_law 210 = .ok (.iadd, 1) := by decide +kernel
theorem dL_law_211 : decode cL_law 211 = .ok (.iaload, 1) := by decide +kernel
theorem dL_law_212 : decode cL_law 212 = .ok (.aload_n 0, 1) := by decide +kernel
theorem dL_law_213 : decode cL_law 213 = .ok (.iload_n 3, 1) := by decide +kernel
theorem dL_law_214 : decode cL_law 214 = .ok (.iconst 2, 1) := by decide +kernel
theorem dL_law_215 : decode cL_law 215 = .ok (.iadd, 1) := by decide +kernel
theorem dL_law_216 : decode cL_law 216 = .ok (.iaload, 1) := by decide +kernel
theorem dL_law_217 : decode cL_law 217 = .ok (.invokevirtual 17, 3) := by decide +kernel
theorem dL_law_220 : decode cL_law 220 = .ok (.if_icmp .eq 1093, 3) := by decide +kernel
theorem dL_law_223 : decode cL_law 223 = .ok (.iconst 0, 1) := by decide +kernel
theorem dL_law_224 : decode cL_law 224 = .ok (.ireturn, 1) := by decide +kernel
theorem dL_law_225 : decode cL_law 225 = .ok (.aload_n 1, 1) := by decide +kernel
theorem dL_law_226 : decode cL_law 226 = .ok (.aload_n 0, 1) := by decide +kernel
theorem dL_law_227 : decode cL_law 227 = .ok (.iload_n 3, 1) := by decide +kernel
theorem dL_law_228 : decode cL_law 228 = .ok (.iconst 1, 1) := by decide +kernel
theorem dL_law_229 : decode cL_law 229 = .ok (.iadd, 1) := by decide +kernel
theorem dL_law_230 : decode cL_law 230 = .ok (.iaload, 1) := by decide +kernel
theorem dL_law_231 : decode cL_law 231 = .ok (.invokevirtual 18, 3) := by decide +kernel
theorem dL_law_234 : decode cL_law 234 = .ok (.aload_n 2, 1) := by decide +kernel
theorem dL_law_235 : decode cL_law 235 = .ok (.aload_n 0, 1) := by decide +kernel
theorem dL_law_236 : decode cL_law 236 = .ok (.iload_n 3, 1) := by decide +kernel
theorem dL_law_237 : decode cL_law 237 = .ok (.iconst 1, 1) := by decide +kernel
theorem dL_law_238 : decode cL_law 238 = .ok (.iadd, 1) := by decide +kernel
theorem dL_law_239 : decode cL_law 239 = .ok (.iaload, 1) := by decide +kernel
theorem dL_law_240 : decode cL_law 240 = .ok (.invokevirtual 22, 3) := by decide +kernel
theorem dL_law_243 : decode cL_law 243 = .ok (.if_icmp .eq 1070, 3) := by decide +kernel
theorem dL_law_246 : decode cL_law 246 = .ok (.iconst 0, 1) := by decide +kernel
theorem dL_law_247 : decode cL_law 247 = .ok (.ireturn, 1) := by decide +kernel
theorem dL_law_248 : decode cL_law 248 = .ok (.aload_n 1, 1) := by decide +kernel
theorem dL_law_249 : decode cL_law 249 = .ok (.aload_n 0, 1) := by decide +kernel
theorem dL_law_250 : decode cL_law 250 = .ok (.iload_n 3, 1) := by decide +kernel
theorem dL_law_251 : decode cL_law 251 = .ok (.iconst 1, 1) := by decide +kernel
theorem dL_law_252 : decode cL_law 252 = .ok (.iadd, 1) := by decide +kernel
theorem dL_law_253 : decode cL_law 253 = .ok (.iaload, 1) := by decide +kernel
theorem dL_law_254 : decode cL_law 254 = .ok (.invokevirtual 23, 3) := by decide +kernel
theorem dL_law_257 : decode cL_law 257 = .ok (.aload_n 2, 1) := by decide +kernel
theorem dL_law_258 : decode cL_law 258 = .ok (.aload_n 0, 1) := by decide +kernel
theorem dL_law_259 : decode cL_law 259 = .ok (.iload_n 3, 1) := by decide +kernel
theorem dL_law_260 : decode cL_law 260 = .ok (.iconst 1, 1) := by decide +kernel
theorem dL_law_261 : decode cL_law 261 = .ok (.iadd, 1) := by decide +kernel
theorem dL_law_262 : decode cL_law 262 = .ok (.iaload, 1) := by decide +kernel
theorem dL_law_263 : decode cL_law 263 = .ok (.invokevirtual 26, 3) := by decide +kernel
theorem dL_law_266 : decode cL_law 266 = .ok (.if_icmp .eq 1047, 3) := by decide +kernel
theorem dL_law_269 : decode cL_law 269 = .ok (.iconst 0, 1) := by decide +kernel
theorem dL_law_270 : decode cL_law 270 = .ok (.ireturn, 1) := by decide +kernel
theorem dL_law_271 : decode cL_law 271 = .ok (.aload_n 1, 1) := by decide +kernel
theorem dL_law_272 : decode cL_law 272 = .ok (.aload_n 0, 1) := by decide +kernel
theorem dL_law_273 : decode cL_law 273 = .ok (.iload_n 3, 1) := by decide +kernel
theorem dL_law_274 : decode cL_law 274 = .ok (.iconst 1, 1) := by decide +kernel
theorem dL_law_275 : decode cL_law 275 = .ok (.iadd, 1) := by decide +kernel
theorem dL_law_276 : decode cL_law 276 = .ok (.iaload, 1) := by decide +kernel
theorem dL_law_277 : decode cL_law 277 = .ok (.aload_n 0, 1) := by decide +kernel
theorem dL_law_278 : decode cL_law 278 = .ok (.iload_n 3, 1) := by decide +kernel
theorem dL_law_279 : decode cL_law 279 = .ok (.iconst 2, 1) := by decide +kernel
theorem dL_law_280 : decode cL_law 280 = .ok (.iadd, 1) := by decide +kernel
theorem dL_law_281 : decode cL_law 281 = .ok (.iaload, 1) := by decide +kernel
theorem dL_law_282 : decode cL_law 282 = .ok (.invokevirtual 27, 3) := by decide +kernel
theorem dL_law_285 : decode cL_law 285 = .ok (.aload_n 2, 1) := by decide +kernel
theorem dL_law_286 : decode cL_law 286 = .ok (.aload_n 0, 1) := by decide +kernel
theorem dL_law_287 : decode cL_law 287 = .ok (.iload_n 3, 1) := by decide +kernel
theorem dL_law_288 : decode cL_law 288 = .ok (.iconst 1, 1) := by decide +kernel
theorem dL_law_289 : decode cL_law 289 = .ok (.iadd, 1) := by decide +kernel
theorem dL_law_290 : decode cL_law 290 = .ok (.iaload, 1) := by decide +kernel
theorem dL_law_291 : decode cL_law 291 = .ok (.aload_n 0, 1) := by decide +kernel
theorem dL_law_292 : decode cL_law 292 = .ok (.iload_n 3, 1) := by decide +kernel
theorem dL_law_293 : decode cL_law 293 = .ok (.iconst 2, 1) := by decide +kernel
theorem dL_law_294 : decode cL_law 294 = .ok (.iadd, 1) := by decide +kernel
theorem dL_law_295 : decode cL_law 295 = .ok (.iaload, 1) := by decide +kernel
theorem dL_law_296 : decode cL_law 296 = .ok (.invokevirtual 30, 3) := by decide +kernel
theorem dL_law_299 : decode cL_law 299 = .ok (.if_icmp .eq 1014, 3) := by decide +kernel
theorem dL_law_302 : decode cL_law 302 = .ok (.iconst 0, 1) := by decide +kernel
theorem dL_law_303 : decode cL_law 303 = .ok (.ireturn, 1) := by decide +kernel
theorem dL_law_304 : decode cL_law 304 = .ok (.aload_n 1, 1) := by decide +kernel
theorem dL_law_305 : decode cL_law 305 = .ok (.aload_n 0, 1) := by decide +kernel
theorem dL_law_306 : decode cL_law 306 = .ok (.iload_n 3, 1) := by decide +kernel
theorem dL_law_307 : decode cL_law 307 = .ok (.iconst 1, 1) := by decide +kernel
theorem dL_law_308 : decode cL_law 308 = .ok (.iadd, 1) := by decide +kernel
theorem dL_law_309 : decode cL_law 309 = .ok (.iaload, 1) := by decide +kernel
theorem dL_law_310 : decode cL_law 310 = .ok (.aload_n 0, 1) := by decide +kernel
theorem dL_law_311 : decode cL_law 311 = .ok (.iload_n 3, 1) := by decide +kernel
theorem dL_law_312 : decode cL_law 312 = .ok (.iconst 2, 1) := by decide +kernel
theorem dL_law_313 : decode cL_law 313 = .ok (.iadd, 1) := by decide +kernel
theorem dL_law_314 : decode cL_law 314 = .ok (.iaload, 1) := by decide +kernel
theorem dL_law_315 : decode cL_law 315 = .ok (.invokevirtual 31, 3) := by decide +kernel
theorem dL_law_318 : decode cL_law 318 = .ok (.aload_n 2, 1) := by decide +kernel
theorem dL_law_319 : decode cL_law 319 = .ok (.aload_n 0, 1) := by decide +kernel
theorem dL_law_320 : decode cL_law 320 = .ok (.iload_n 3, 1) := by decide +kernel
theorem dL_law_321 : decode cL_law 321 = .ok (.iconst 1, 1) := by decide +kernel
theorem dL_law_322 : decode cL_law 322 = .ok (.iadd, 1) := by decide +kernel
theorem dL_law_323 : decode cL_law 323 = .ok (.iaload, 1) := by decide +kernel
theorem dL_law_324 : decode cL_law 324 = .ok (.aload_n 0, 1) := by decide +kernel
theorem dL_law_325 : decode cL_law 325 = .ok (.iload_n 3, 1) := by decide +kernel
theorem dL_law_326 : decode cL_law 326 = .ok (.iconst 2, 1) := by decide +kernel
theorem dL_law_327 : decode cL_law 327 = .ok (.iadd, 1) := by decide +kernel
theorem dL_law_328 : decode cL_law 328 = .ok (.iaload, 1) := by decide +kernel
theorem dL_law_329 : decode cL_law 329 = .ok (.invokevirtual 34, 3) := by decide +kernel
theorem dL_law_332 : decode cL_law 332 = .ok (.if_icmp .eq 981, 3) := by decide +kernel
theorem dL_law_335 : decode cL_law 335 = .ok (.iconst 0, 1) := by decide +kernel
theorem dL_law_336 : decode cL_law 336 = .ok (.ireturn, 1) := by decide +kernel
theorem dL_law_337 : decode cL_law 337 = .ok (.aload_n 1, 1) := by decide +kernel
theorem dL_law_338 : decode cL_law 338 = .ok (.aload_n 0, 1) := by decide +kernel
theorem dL_law_339 : decode cL_law 339 = .ok (.iload_n 3, 1) := by decide +kernel
theorem dL_law_340 : decode cL_law 340 = .ok (.iconst 1, 1) := by decide +kernel
theorem dL_law_341 : decode cL_law 341 = .ok (.iadd, 1) := by decide +kernel
theorem dL_law_342 : decode cL_law 342 = .ok (.iaload, 1) := by decide +kernel
theorem dL_law_343 : decode cL_law 343 = .ok (.aload_n 0, 1) := by decide +kernel
theorem dL_law_344 : decode cL_law 344 = .ok (.iload_n 3, 1) := by decide +kernel
theorem dL_law_345 : decode cL_law 345 = .ok (.iconst 2, 1) := by decide +kernel
theorem dL_law_346 : decode cL_law 346 = .ok (.iadd, 1) := by decide +kernel
theorem dL_law_347 : decode cL_law 347 = .ok (.iaload, 1) := by decide +kernel
theorem dL_law_348 : decode cL_law 348 = .ok (.aload_n 0, 1) := by decide +kernel
theorem dL_law_349 : decode cL_law 349 = .ok (.iload_n 3, 1) := by decide +kernel
theorem dL_law_350 : decode cL_law 350 = .ok (.iconst 3, 1) := by decide +kernel
theorem dL_law_351 : decode cL_law 351 = .ok (.iadd, 1) := by decide +kernel
theorem dL_law_352 : decode cL_law 352 = .ok (.iaload, 1) := by decide +kernel
theorem dL_law_353 : decode cL_law 353 = .ok (.invokevirtual 35, 3) := by decide +kernel
theorem dL_law_356 : decode cL_law 356 = .ok (.aload_n 2, 1) := by decide +kernel
theorem dL_law_357 : decode cL_law 357 = .ok (.aload_n 0, 1) := by decide +kernel
theorem dL_law_358 : decode cL_law 358 = .ok (.iload_n 3, 1) := by decide +kernel
theorem dL_law_359 : decode cL_law 359 = .ok (.iconst 1, 1) := by decide +kernel
theorem dL_law_360 : decode cL_law 360 = .ok (.iadd, 1) := by decide +kernel
theorem dL_law_361 : decode cL_law 361 = .ok (.iaload, 1) := by decide +kernel
theorem dL_law_362 : decode cL_law 362 = .ok (.aload_n 0, 1) := by decide +kernel
theorem dL_law_363 : decode cL_law 363 = .ok (.iload_n 3, 1) := by decide +kernel
theorem dL_law_364 : decode cL_law 364 = .ok (.iconst 2, 1) := by decide +kernel
theorem dL_law_365 : decode cL_law 365 = .ok (.iadd, 1) := by decide +kernel
theorem dL_law_366 : decode cL_law 366 = .ok (.iaload, 1) := by decide +kernel
theorem dL_law_367 : decode cL_law 367 = .ok (.aload_n 0, 1) := by decide +kernel
theorem dL_law_368 : decode cL_law 368 = .ok (.iload_n 3, 1) := by decide +kernel
theorem dL_law_369 : decode cL_law 369 = .ok (.iconst 3, 1) := by decide +kernel
theorem dL_law_370 : decode cL_law 370 = .ok (.iadd, 1) := by decide +kernel
theorem dL_law_371 : decode cL_law 371 = .ok (.iaload, 1) := by decide +kernel
theorem dL_law_372 : decode cL_law 372 = .ok (.invokevirtual 39, 3) := by decide +kernel
theorem dL_law_375 : decode cL_law 375 = .ok (.if_icmp .eq 938, 3) := by decide +kernel
theorem dL_law_378 : decode cL_law 378 = .ok (.iconst 0, 1) := by decide +kernel
theorem dL_law_379 : decode cL_law 379 = .ok (.ireturn, 1) := by decide +kernel
theorem dL_law_380 : decode cL_law 380 = .ok (.aload_n 1, 1) := by decide +kernel
theorem dL_law_381 : decode cL_law 381 = .ok (.aload_n 0, 1) := by decide +kernel
theorem dL_law_382 : decode cL_law 382 = .ok (.iload_n 3, 1) := by decide +kernel
theorem dL_law_383 : decode cL_law 383 = .ok (.iconst 1, 1) := by decide +kernel
theorem dL_law_384 : decode cL_law 384 = .ok (.iadd, 1) := by decide +kernel
theorem dL_law_385 : decode cL_law 385 = .ok (.iaload, 1) := by decide +kernel
theorem dL_law_386 : decode cL_law 386 = .ok (.aload_n 0, 1) := by decide +kernel
theorem dL_law_387 : decode cL_law 387 = .ok (.iload_n 3, 1) := by decide +kernel
theorem dL_law_388 : decode cL_law 388 = .ok (.iconst 2, 1) := by decide +kernel
theorem dL_law_389 : decode cL_law 389 = .ok (.iadd, 1) := by decide +kernel
theorem dL_law_390 : decode cL_law 390 = .ok (.iaload, 1) := by decide +kernel
theorem dL_law_391 : decode cL_law 391 = .ok (.invokevirtual 40, 3) := by decide +kernel
theorem dL_law_394 : decode cL_law 394 = .ok (.aload_n 2, 1) := by decide +kernel
theorem dL_law_395 : decode cL_law 395 = .ok (.aload_n 0, 1) := by decide +kernel
theorem dL_law_396 : decode cL_law 396 = .ok (.iload_n 3, 1) := by decide +kernel
theorem dL_law_397 : decode cL_law 397 = .ok (.iconst 1, 1) := by decide +kernel
theorem dL_law_398 : decode cL_law 398 = .ok (.iadd, 1) := by decide +kernel
theorem dL_law_399 : decode cL_law 399 = .ok (.iaload, 1) := by decide +kernel
theorem dL_law_400 : decode cL_law 400 = .ok (.aload_n 0, 1) := by decide +kernel
theorem dL_law_401 : decode cL_law 401 = .ok (.iload_n 3, 1) := by decide +kernel
theorem dL_law_402 : decode cL_law 402 = .ok (.iconst 2, 1) := by decide +kernel
theorem dL_law_403 : decode cL_law 403 = .ok (.iadd, 1) := by decide +kernel
theorem dL_law_404 : decode cL_law 404 = .ok (.iaload, 1) := by decide +kernel
theorem dL_law_405 : decode cL_law 405 = .ok (.invokevirtual 43, 3) := by decide +kernel
theorem dL_law_408 : decode cL_law 408 = .ok (.if_icmp .eq 905, 3) := by decide +kernel
theorem dL_law_411 : decode cL_law 411 = .ok (.iconst 0, 1) := by decide +kernel
theorem dL_law_412 : decode cL_law 412 = .ok (.ireturn, 1) := by decide +kernel
theorem dL_law_413 : decode cL_law 413 = .ok (.aload_n 1, 1) := by decide +kernel
theorem dL_law_414 : decode cL_law 414 = .ok (.aload_n 0, 1) := by decide +kernel
theorem dL_law_415 : decode cL_law 415 = .ok (.iload_n 3, 1) := by decide +kernel
theorem dL_law_416 : decode cL_law 416 = .ok (.iconst 1, 1) := by decide +kernel
theorem dL_law_417 : decode cL_law 417 = .ok (.iadd, 1) := by decide +kernel
theorem dL_law_418 : decode cL_law 418 = .ok (.iaload, 1) := by decide +kernel
theorem dL_law_419 : decode cL_law 419 = .ok (.aload_n 0, 1) := by decide +kernel
theorem dL_law_420 : decode cL_law 420 = .ok (.iload_n 3, 1) := by decide +kernel
theorem dL_law_421 : decode cL_law 421 = .ok (.iconst 2, 1) := by decide +kernel
theorem dL_law_422 : decode cL_law 422 = .ok (.iadd, 1) := by decide +kernel
theorem dL_law_423 : decode cL_law 423 = .ok (.iaload, 1) := by decide +kernel
theorem dL_law_424 : decode cL_law 424 = .ok (.invokevirtual 44, 3) := by decide +kernel
theorem dL_law_427 : decode cL_law 427 = .ok (.aload_n 2, 1) := by decide +kernel
theorem dL_law_428 : decode cL_law 428 = .ok (.aload_n 0, 1) := by decide +kernel
theorem dL_law_429 : decode cL_law 429 = .ok (.iload_n 3, 1) := by decide +kernel
theorem dL_law_430 : decode cL_law 430 = .ok (.iconst 1, 1) := by decide +kernel
theorem dL_law_431 : decode cL_law 431 = .ok (.iadd, 1) := by decide +kernel
theorem dL_law_432 : decode cL_law 432 = .ok (.iaload, 1) := by decide +kernel
theorem dL_law_433 : decode cL_law 433 = .ok (.aload_n 0, 1) := by decide +kernel
theorem dL_law_434 : decode cL_law 434 = .ok (.iload_n 3, 1) := by decide +kernel
theorem dL_law_435 : decode cL_law 435 = .ok (.iconst 2, 1) := by decide +kernel
theorem dL_law_436 : decode cL_law 436 = .ok (.iadd, 1) := by decide +kernel
theorem dL_law_437 : decode cL_law 437 = .ok (.iaload, 1) := by decide +kernel
theorem dL_law_438 : decode cL_law 438 = .ok (.invokevirtual 47, 3) := by decide +kernel
theorem dL_law_441 : decode cL_law 441 = .ok (.if_icmp .eq 872, 3) := by decide +kernel
theorem dL_law_444 : decode cL_law 444 = .ok (.iconst 0, 1) := by decide +kernel
theorem dL_law_445 : decode cL_law 445 = .ok (.ireturn, 1) := by decide +kernel
theorem dL_law_446 : decode cL_law 446 = .ok (.aload_n 1, 1) := by decide +kernel
theorem dL_law_447 : decode cL_law 447 = .ok (.aload_n 0, 1) := by decide +kernel
theorem dL_law_448 : decode cL_law 448 = .ok (.iload_n 3, 1) := by decide +kernel
theorem dL_law_449 : decode cL_law 449 = .ok (.iconst 1, 1) := by decide +kernel
theorem dL_law_450 : decode cL_law 450 = .ok (.iadd, 1) := by decide +kernel
theorem dL_law_451 : decode cL_law 451 = .ok (.iaload, 1) := by decide +kernel
theorem dL_law_452 : decode cL_law 452 = .ok (.invokevirtual 48, 3) := by decide +kernel
theorem dL_law_455 : decode cL_law 455 = .ok (.aload_n 2, 1) := by decide +kernel
theorem dL_law_456 : decode cL_law 456 = .ok (.aload_n 0, 1) := by decide +kernel
theorem dL_law_457 : decode cL_law 457 = .ok (.iload_n 3, 1) := by decide +kernel
theorem dL_law_458 : decode cL_law 458 = .ok (.iconst 1, 1) := by decide +kernel
theorem dL_law_459 : decode cL_law 459 = .ok (.iadd, 1) := by decide +kernel
theorem dL_law_460 : decode cL_law 460 = .ok (.iaload, 1) := by decide +kernel
theorem dL_law_461 : decode cL_law 461 = .ok (.invokevirtual 51, 3) := by decide +kernel
theorem dL_law_464 : decode cL_law 464 = .ok (.if_icmp .eq 849, 3) := by decide +kernel
theorem dL_law_467 : decode cL_law 467 = .ok (.iconst 0, 1) := by decide +kernel
theorem dL_law_468 : decode cL_law 468 = .ok (.ireturn, 1) := by decide +kernel
theorem dL_law_469 : decode cL_law 469 = .ok (.aload_n 1, 1) := by decide +kernel
theorem dL_law_470 : decode cL_law 470 = .ok (.aload_n 0, 1) := by decide +kernel
theorem dL_law_471 : decode cL_law 471 = .ok (.iload_n 3, 1) := by decide +kernel
theorem dL_law_472 : decode cL_law 472 = .ok (.iconst 1, 1) := by decide +kernel
theorem dL_law_473 : decode cL_law 473 = .ok (.iadd, 1) := by decide +kernel
theorem dL_law_474 : decode cL_law 474 = .ok (.iaload, 1) := by decide +kernel
theorem dL_law_475 : decode cL_law 475 = .ok (.aload_n 0, 1) := by decide +kernel
theorem dL_law_476 : decode cL_law 476 = .ok (.iload_n 3, 1) := by decide +kernel
theorem dL_law_477 : decode cL_law 477 = .ok (.iconst 2, 1) := by decide +kernel
theorem dL_law_478 : decode cL_law 478 = .ok (.iadd, 1) := by decide +kernel
theorem dL_law_479 : decode cL_law 479 = .ok (.iaload, 1) := by decide +kernel
theorem dL_law_480 : decode cL_law 480 = .ok (.invokevirtual 52, 3) := by decide +kernel
theorem dL_law_483 : decode cL_law 483 = .ok (.aload_n 2, 1) := by decide +kernel
theorem dL_law_484 : decode cL_law 484 = .ok (.aload_n 0, 1) := by decide +kernel
theorem dL_law_485 : decode cL_law 485 = .ok (.iload_n 3, 1) := by decide +kernel
theorem dL_law_486 : decode cL_law 486 = .ok (.iconst 1, 1) := by decide +kernel
theorem dL_law_487 : decode cL_law 487 = .ok (.iadd, 1) := by decide +kernel
theorem dL_law_488 : decode cL_law 488 = .ok (.iaload, 1) := by decide +kernel
theorem dL_law_489 : decode cL_law 489 = .ok (.aload_n 0, 1) := by decide +kernel
theorem dL_law_490 : decode cL_law 490 = .ok (.iload_n 3, 1) := by decide +kernel
theorem dL_law_491 : decode cL_law 491 = .ok (.iconst 2, 1) := by decide +kernel
theorem dL_law_492 : decode cL_law 492 = .ok (.iadd, 1) := by decide +kernel
theorem dL_law_493 : decode cL_law 493 = .ok (.iaload, 1) := by decide +kernel
theorem dL_law_494 : decode cL_law 494 = .ok (.invokevirtual 55, 3) := by decide +kernel
theorem dL_law_497 : decode cL_law 497 = .ok (.if_icmp .eq 816, 3) := by decide +kernel
theorem dL_law_500 : decode cL_law 500 = .ok (.iconst 0, 1) := by decide +kernel
theorem dL_law_501 : decode cL_law 501 = .ok (.ireturn, 1) := by decide +kernel
theorem dL_law_502 : decode cL_law 502 = .ok (.aload_n 1, 1) := by decide +kernel
theorem dL_law_503 : decode cL_law 503 = .ok (.aload_n 0, 1) := by decide +kernel
theorem dL_law_504 : decode cL_law 504 = .ok (.iload_n 3, 1) := by decide +kernel
theorem dL_law_505 : decode cL_law 505 = .ok (.iconst 1, 1) := by decide +kernel
theorem dL_law_506 : decode cL_law 506 = .ok (.iadd, 1) := by decide +kernel
theorem dL_law_507 : decode cL_law 507 = .ok (.iaload, 1) := by decide +kernel
theorem dL_law_508 : decode cL_law 508 = .ok (.invokevirtual 56, 3) := by decide +kernel
theorem dL_law_511 : decode cL_law 511 = .ok (.aload_n 2, 1) := by decide +kernel
theorem dL_law_512 : decode cL_law 512 = .ok (.aload_n 0, 1) := by decide +kernel
theorem dL_law_513 : decode cL_law 513 = .ok (.iload_n 3, 1) := by decide +kernel
theorem dL_law_514 : decode cL_law 514 = .ok (.iconst 1, 1) := by decide +kernel
theorem dL_law_515 : decode cL_law 515 = .ok (.iadd, 1) := by decide +kernel
theorem dL_law_516 : decode cL_law 516 = .ok (.iaload, 1) := by decide +kernel
theorem dL_law_517 : decode cL_law 517 = .ok (.invokevirtual 59, 3) := by decide +kernel
theorem dL_law_520 : decode cL_law 520 = .ok (.if_icmp .eq 793, 3) := by decide +kernel
theorem dL_law_523 : decode cL_law 523 = .ok (.iconst 0, 1) := by decide +kernel
theorem dL_law_524 : decode cL_law 524 = .ok (.ireturn, 1) := by decide +kernel
theorem dL_law_525 : decode cL_law 525 = .ok (.aload_n 1, 1) := by decide +kernel
theorem dL_law_526 : decode cL_law 526 = .ok (.aload_n 0, 1) := by decide +kernel
theorem dL_law_527 : decode cL_law 527 = .ok (.iload_n 3, 1) := by decide +kernel
theorem dL_law_528 : decode cL_law 528 = .ok (.iconst 1, 1) := by decide +kernel
theorem dL_law_529 : decode cL_law 529 = .ok (.iadd, 1) := by decide +kernel
theorem dL_law_530 : decode cL_law 530 = .ok (.iaload, 1) := by decide +kernel
theorem dL_law_531 : decode cL_law 531 = .ok (.aload_n 0, 1) := by decide +kernel
theorem dL_law_532 : decode cL_law 532 = .ok (.iload_n 3, 1) := by decide +kernel
theorem dL_law_533 : decode cL_law 533 = .ok (.iconst 2, 1) := by decide +kernel
theorem dL_law_534 : decode cL_law 534 = .ok (.iadd, 1) := by decide +kernel
theorem dL_law_535 : decode cL_law 535 = .ok (.iaload, 1) := by decide +kernel
theorem dL_law_536 : decode cL_law 536 = .ok (.invokevirtual 60, 3) := by decide +kernel
theorem dL_law_539 : decode cL_law 539 = .ok (.aload_n 2, 1) := by decide +kernel
theorem dL_law_540 : decode cL_law 540 = .ok (.aload_n 0, 1) := by decide +kernel
theorem dL_law_541 : decode cL_law 541 = .ok (.iload_n 3, 1) := by decide +kernel
theorem dL_law_542 : decode cL_law 542 = .ok (.iconst 1, 1) := by decide +kernel
theorem dL_law_543 : decode cL_law 543 = .ok (.iadd, 1) := by decide +kernel
theorem dL_law_544 : decode cL_law 544 = .ok (.iaload, 1) := by decide +kernel
theorem dL_law_545 : decode cL_law 545 = .ok (.aload_n 0, 1) := by decide +kernel
theorem dL_law_546 : decode cL_law 546 = .ok (.iload_n 3, 1) := by decide +kernel
theorem dL_law_547 : decode cL_law 547 = .ok (.iconst 2, 1) := by decide +kernel
theorem dL_law_548 : decode cL_law 548 = .ok (.iadd, 1) := by decide +kernel
theorem dL_law_549 : decode cL_law 549 = .ok (.iaload, 1) := by decide +kernel
theorem dL_law_550 : decode cL_law 550 = .ok (.invokevirtual 63, 3) := by decide +kernel
theorem dL_law_553 : decode cL_law 553 = .ok (.if_icmp .eq 760, 3) := by decide +kernel
theorem dL_law_556 : decode cL_law 556 = .ok (.iconst 0, 1) := by decide +kernel
theorem dL_law_557 : decode cL_law 557 = .ok (.ireturn, 1) := by decide +kernel
theorem dL_law_558 : decode cL_law 558 = .ok (.aload_n 1, 1) := by decide +kernel
theorem dL_law_559 : decode cL_law 559 = .ok (.aload_n 0, 1) := by decide +kernel
theorem dL_law_560 : decode cL_law 560 = .ok (.iload_n 3, 1) := by decide +kernel
theorem dL_law_561 : decode cL_law 561 = .ok (.iconst 1, 1) := by decide +kernel
theorem dL_law_562 : decode cL_law 562 = .ok (.iadd, 1) := by decide +kernel
theorem dL_law_563 : decode cL_law 563 = .ok (.iaload, 1) := by decide +kernel
theorem dL_law_564 : decode cL_law 564 = .ok (.aload_n 0, 1) := by decide +kernel
theorem dL_law_565 : decode cL_law 565 = .ok (.iload_n 3, 1) := by decide +kernel
theorem dL_law_566 : decode cL_law 566 = .ok (.iconst 2, 1) := by decide +kernel
theorem dL_law_567 : decode cL_law 567 = .ok (.iadd, 1) := by decide +kernel
theorem dL_law_568 : decode cL_law 568 = .ok (.iaload, 1) := by decide +kernel
theorem dL_law_569 : decode cL_law 569 = .ok (.invokevirtual 64, 3) := by decide +kernel
theorem dL_law_572 : decode cL_law 572 = .ok (.aload_n 2, 1) := by decide +kernel
theorem dL_law_573 : decode cL_law 573 = .ok (.aload_n 0, 1) := by decide +kernel
theorem dL_law_574 : decode cL_law 574 = .ok (.iload_n 3, 1) := by decide +kernel
theorem dL_law_575 : decode cL_law 575 = .ok (.iconst 1, 1) := by decide +kernel
theorem dL_law_576 : decode cL_law 576 = .ok (.iadd, 1) := by decide +kernel
theorem dL_law_577 : decode cL_law 577 = .ok (.iaload, 1) := by decide +kernel
theorem dL_law_578 : decode cL_law 578 = .ok (.aload_n 0, 1) := by decide +kernel
theorem dL_law_579 : decode cL_law 579 = .ok (.iload_n 3, 1) := by decide +kernel
theorem dL_law_580 : decode cL_law 580 = .ok (.iconst 2, 1) := by decide +kernel
theorem dL_law_581 : decode cL_law 581 = .ok (.iadd, 1) := by decide +kernel
theorem dL_law_582 : decode cL_law 582 = .ok (.iaload, 1) := by decide +kernel
theorem dL_law_583 : decode cL_law 583 = .ok (.invokevirtual 67, 3) := by decide +kernel
theorem dL_law_586 : decode cL_law 586 = .ok (.if_icmp .eq 727, 3) := by decide +kernel
theorem dL_law_589 : decode cL_law 589 = .ok (.iconst 0, 1) := by decide +kernel
theorem dL_law_590 : decode cL_law 590 = .ok (.ireturn, 1) := by decide +kernel
theorem dL_law_591 : decode cL_law 591 = .ok (.aload_n 1, 1) := by decide +kernel
theorem dL_law_592 : decode cL_law 592 = .ok (.aload_n 0, 1) := by decide +kernel
theorem dL_law_593 : decode cL_law 593 = .ok (.iload_n 3, 1) := by decide +kernel
theorem dL_law_594 : decode cL_law 594 = .ok (.iconst 1, 1) := by decide +kernel
theorem dL_law_595 : decode cL_law 595 = .ok (.iadd, 1) := by decide +kernel
theorem dL_law_596 : decode cL_law 596 = .ok (.iaload, 1) := by decide +kernel
theorem dL_law_597 : decode cL_law 597 = .ok (.invokevirtual 68, 3) := by decide +kernel
theorem dL_law_600 : decode cL_law 600 = .ok (.aload_n 2, 1) := by decide +kernel
theorem dL_law_601 : decode cL_law 601 = .ok (.aload_n 0, 1) := by decide +kernel
theorem dL_law_602 : decode cL_law 602 = .ok (.iload_n 3, 1) := by decide +kernel
theorem dL_law_603 : decode cL_law 603 = .ok (.iconst 1, 1) := by decide +kernel
theorem dL_law_604 : decode cL_law 604 = .ok (.iadd, 1) := by decide +kernel
theorem dL_law_605 : decode cL_law 605 = .ok (.iaload, 1) := by decide +kernel
theorem dL_law_606 : decode cL_law 606 = .ok (.invokevirtual 71, 3) := by decide +kernel
theorem dL_law_609 : decode cL_law 609 = .ok (.if_icmp .eq 704, 3) := by decide +kernel
theorem dL_law_612 : decode cL_law 612 = .ok (.iconst 0, 1) := by decide +kernel
theorem dL_law_613 : decode cL_law 613 = .ok (.ireturn, 1) := by decide +kernel
theorem dL_law_614 : decode cL_law 614 = .ok (.aload_n 1, 1) := by decide +kernel
theorem dL_law_615 : decode cL_law 615 = .ok (.aload_n 0, 1) := by decide +kernel
theorem dL_law_616 : decode cL_law 616 = .ok (.iload_n 3, 1) := by decide +kernel
theorem dL_law_617 : decode cL_law 617 = .ok (.iconst 1, 1) := by decide +kernel
theorem dL_law_618 : decode cL_law 618 = .ok (.iadd, 1) := by decide +kernel
theorem dL_law_619 : decode cL_law 619 = .ok (.iaload, 1) := by decide +kernel
theorem dL_law_620 : decode cL_law 620 = .ok (.invokevirtual 72, 3) := by decide +kernel
theorem dL_law_623 : decode cL_law 623 = .ok (.aload_n 2, 1) := by decide +kernel
theorem dL_law_624 : decode cL_law 624 = .ok (.aload_n 0, 1) := by decide +kernel
theorem dL_law_625 : decode cL_law 625 = .ok (.iload_n 3, 1) := by decide +kernel
theorem dL_law_626 : decode cL_law 626 = .ok (.iconst 1, 1) := by decide +kernel
theorem dL_law_627 : decode cL_law 627 = .ok (.iadd, 1) := by decide +kernel
theorem dL_law_628 : decode cL_law 628 = .ok (.iaload, 1) := by decide +kernel
theorem dL_law_629 : decode cL_law 629 = .ok (.invokevirtual 75, 3) := by decide +kernel
theorem dL_law_632 : decode cL_law 632 = .ok (.if_icmp .eq 681, 3) := by decide +kernel
theorem dL_law_635 : decode cL_law 635 = .ok (.iconst 0, 1) := by decide +kernel
theorem dL_law_636 : decode cL_law 636 = .ok (.ireturn, 1) := by decide +kernel
theorem dL_law_637 : decode cL_law 637 = .ok (.aload_n 1, 1) := by decide +kernel
theorem dL_law_638 : decode cL_law 638 = .ok (.aload_n 0, 1) := by decide +kernel
theorem dL_law_639 : decode cL_law 639 = .ok (.iload_n 3, 1) := by decide +kernel
theorem dL_law_640 : decode cL_law 640 = .ok (.iconst 1, 1) := by decide +kernel
theorem dL_law_641 : decode cL_law 641 = .ok (.iadd, 1) := by decide +kernel
theorem dL_law_642 : decode cL_law 642 = .ok (.iaload, 1) := by decide +kernel
theorem dL_law_643 : decode cL_law 643 = .ok (.aload_n 0, 1) := by decide +kernel
theorem dL_law_644 : decode cL_law 644 = .ok (.iload_n 3, 1) := by decide +kernel
theorem dL_law_645 : decode cL_law 645 = .ok (.iconst 2, 1) := by decide +kernel
theorem dL_law_646 : decode cL_law 646 = .ok (.iadd, 1) := by decide +kernel
theorem dL_law_647 : decode cL_law 647 = .ok (.iaload, 1) := by decide +kernel
theorem dL_law_648 : decode cL_law 648 = .ok (.invokevirtual 76, 3) := by decide +kernel
theorem dL_law_651 : decode cL_law 651 = .ok (.aload_n 2, 1) := by decide +kernel
theorem dL_law_652 : decode cL_law 652 = .ok (.aload_n 0, 1) := by decide +kernel
theorem dL_law_653 : decode cL_law 653 = .ok (.iload_n 3, 1) := by decide +kernel
theorem dL_law_654 : decode cL_law 654 = .ok (.iconst 1, 1) := by decide +kernel
theorem dL_law_655 : decode cL_law 655 = .ok (.iadd, 1) := by decide +kernel
theorem dL_law_656 : decode cL_law 656 = .ok (.iaload, 1) := by decide +kernel
theorem dL_law_657 : decode cL_law 657 = .ok (.aload_n 0, 1) := by decide +kernel
theorem dL_law_658 : decode cL_law 658 = .ok (.iload_n 3, 1) := by decide +kernel
theorem dL_law_659 : decode cL_law 659 = .ok (.iconst 2, 1) := by decide +kernel
theorem dL_law_660 : decode cL_law 660 = .ok (.iadd, 1) := by decide +kernel
theorem dL_law_661 : decode cL_law 661 = .ok (.iaload, 1) := by decide +kernel
theorem dL_law_662 : decode cL_law 662 = .ok (.invokevirtual 79, 3) := by decide +kernel
theorem dL_law_665 : decode cL_law 665 = .ok (.if_icmp .eq 648, 3) := by decide +kernel
theorem dL_law_668 : decode cL_law 668 = .ok (.iconst 0, 1) := by decide +kernel
theorem dL_law_669 : decode cL_law 669 = .ok (.ireturn, 1) := by decide +kernel
theorem dL_law_670 : decode cL_law 670 = .ok (.aload_n 1, 1) := by decide +kernel
theorem dL_law_671 : decode cL_law 671 = .ok (.aload_n 0, 1) := by decide +kernel
theorem dL_law_672 : decode cL_law 672 = .ok (.iload_n 3, 1) := by decide +kernel
theorem dL_law_673 : decode cL_law 673 = .ok (.iconst 1, 1) := by decide +kernel
theorem dL_law_674 : decode cL_law 674 = .ok (.iadd, 1) := by decide +kernel
theorem dL_law_675 : decode cL_law 675 = .ok (.iaload, 1) := by decide +kernel
theorem dL_law_676 : decode cL_law 676 = .ok (.aload_n 0, 1) := by decide +kernel
theorem dL_law_677 : decode cL_law 677 = .ok (.iload_n 3, 1) := by decide +kernel
theorem dL_law_678 : decode cL_law 678 = .ok (.iconst 2, 1) := by decide +kernel
theorem dL_law_679 : decode cL_law 679 = .ok (.iadd, 1) := by decide +kernel
theorem dL_law_680 : decode cL_law 680 = .ok (.iaload, 1) := by decide +kernel
theorem dL_law_681 : decode cL_law 681 = .ok (.invokevirtual 80, 3) := by decide +kernel
theorem dL_law_684 : decode cL_law 684 = .ok (.aload_n 2, 1) := by decide +kernel
theorem dL_law_685 : decode cL_law 685 = .ok (.aload_n 0, 1) := by decide +kernel
theorem dL_law_686 : decode cL_law 686 = .ok (.iload_n 3, 1) := by decide +kernel
theorem dL_law_687 : decode cL_law 687 = .ok (.iconst 1, 1) := by decide +kernel
theorem dL_law_688 : decode cL_law 688 = .ok (.iadd, 1) := by decide +kernel
theorem dL_law_689 : decode cL_law 689 = .ok (.iaload, 1) := by decide +kernel
theorem dL_law_690 : decode cL_law 690 = .ok (.aload_n 0, 1) := by decide +kernel
theorem dL_law_691 : decode cL_law 691 = .ok (.iload_n 3, 1) := by decide +kernel
theorem dL_law_692 : decode cL_law 692 = .ok (.iconst 2, 1) := by decide +kernel
theorem dL_law_693 : decode cL_law 693 = .ok (.iadd, 1) := by decide +kernel
theorem dL_law_694 : decode cL_law 694 = .ok (.iaload, 1) := by decide +kernel
theorem dL_law_695 : decode cL_law 695 = .ok (.invokevirtual 83, 3) := by decide +kernel
theorem dL_law_698 : decode cL_law 698 = .ok (.if_icmp .eq 615, 3) := by decide +kernel
theorem dL_law_701 : decode cL_law 701 = .ok (.iconst 0, 1) := by decide +kernel
theorem dL_law_702 : decode cL_law 702 = .ok (.ireturn, 1) := by decide +kernel
theorem dL_law_703 : decode cL_law 703 = .ok (.aload_n 1, 1) := by decide +kernel
theorem dL_law_704 : decode cL_law 704 = .ok (.aload_n 0, 1) := by decide +kernel
theorem dL_law_705 : decode cL_law 705 = .ok (.iload_n 3, 1) := by decide +kernel
theorem dL_law_706 : decode cL_law 706 = .ok (.iconst 1, 1) := by decide +kernel
theorem dL_law_707 : decode cL_law 707 = .ok (.iadd, 1) := by decide +kernel
theorem dL_law_708 : decode cL_law 708 = .ok (.iaload, 1) := by decide +kernel
theorem dL_law_709 : decode cL_law 709 = .ok (.invokevirtual 84, 3) := by decide +kernel
theorem dL_law_712 : decode cL_law 712 = .ok (.aload_n 2, 1) := by decide +kernel
theorem dL_law_713 : decode cL_law 713 = .ok (.aload_n 0, 1) := by decide +kernel
theorem dL_law_714 : decode cL_law 714 = .ok (.iload_n 3, 1) := by decide +kernel
theorem dL_law_715 : decode cL_law 715 = .ok (.iconst 1, 1) := by decide +kernel
theorem dL_law_716 : decode cL_law 716 = .ok (.iadd, 1) := by decide +kernel
theorem dL_law_717 : decode cL_law 717 = .ok (.iaload, 1) := by decide +kernel
theorem dL_law_718 : decode cL_law 718 = .ok (.invokevirtual 87, 3) := by decide +kernel
theorem dL_law_721 : decode cL_law 721 = .ok (.if_icmp .eq 592, 3) := by decide +kernel
theorem dL_law_724 : decode cL_law 724 = .ok (.iconst 0, 1) := by decide +kernel
theorem dL_law_725 : decode cL_law 725 = .ok (.ireturn, 1) := by decide +kernel
theorem dL_law_726 : decode cL_law 726 = .ok (.aload_n 1, 1) := by decide +kernel
theorem dL_law_727 : decode cL_law 727 = .ok (.aload_n 0, 1) := by decide +kernel
theorem dL_law_728 : decode cL_law 728 = .ok (.iload_n 3, 1) := by decide +kernel
theorem dL_law_729 : decode cL_law 729 = .ok (.iconst 1, 1) := by decide +kernel
theorem dL_law_730 : decode cL_law 730 = .ok (.iadd, 1) := by decide +kernel
theorem dL_law_731 : decode cL_law 731 = .ok (.iaload, 1) := by decide +kernel
theorem dL_law_732 : decode cL_law 732 = .ok (.aload_n 0, 1) := by decide +kernel
theorem dL_law_733 : decode cL_law 733 = .ok (.iload_n 3, 1) := by decide +kernel
theorem dL_law_734 : decode cL_law 734 = .ok (.iconst 2, 1) := by decide +kernel
theorem dL_law_735 : decode cL_law 735 = .ok (.iadd, 1) := by decide +kernel
theorem dL_law_736 : decode cL_law 736 = .ok (.iaload, 1) := by decide +kernel
theorem dL_law_737 : decode cL_law 737 = .ok (.invokevirtual 88, 3) := by decide +kernel
theorem dL_law_740 : decode cL_law 740 = .ok (.aload_n 2, 1) := by decide +kernel
theorem dL_law_741 : decode cL_law 741 = .ok (.aload_n 0, 1) := by decide +kernel
theorem dL_law_742 : decode cL_law 742 = .ok (.iload_n 3, 1) := by decide +kernel
theorem dL_law_743 : decode cL_law 743 = .ok (.iconst 1, 1) := by decide +kernel
theorem dL_law_744 : decode cL_law 744 = .ok (.iadd, 1) := by decide +kernel
theorem dL_law_745 : decode cL_law 745 = .ok (.iaload, 1) := by decide +kernel
theorem dL_law_746 : decode cL_law 746 = .ok (.aload_n 0, 1) := by decide +kernel
theorem dL_law_747 : decode cL_law 747 = .ok (.iload_n 3, 1) := by decide +kernel
theorem dL_law_748 : decode cL_law 748 = .ok (.iconst 2, 1) := by decide +kernel
theorem dL_law_749 : decode cL_law 749 = .ok (.iadd, 1) := by decide +kernel
theorem dL_law_750 : decode cL_law 750 = .ok (.iaload, 1) := by decide +kernel
theorem dL_law_751 : decode cL_law 751 = .ok (.invokevirtual 91, 3) := by decide +kernel
theorem dL_law_754 : decode cL_law 754 = .ok (.if_icmp .eq 559, 3) := by decide +kernel
theorem dL_law_757 : decode cL_law 757 = .ok (.iconst 0, 1) := by decide +kernel
theorem dL_law_758 : decode cL_law 758 = .ok (.ireturn, 1) := by decide +kernel
theorem dL_law_759 : decode cL_law 759 = .ok (.aload_n 1, 1) := by decide +kernel
theorem dL_law_760 : decode cL_law 760 = .ok (.aload_n 0, 1) := by decide +kernel
theorem dL_law_761 : decode cL_law 761 = .ok (.iload_n 3, 1) := by decide +kernel
theorem dL_law_762 : decode cL_law 762 = .ok (.iconst 1, 1) := by decide +kernel
theorem dL_law_763 : decode cL_law 763 = .ok (.iadd, 1) := by decide +kernel
theorem dL_law_764 : decode cL_law 764 = .ok (.iaload, 1) := by decide +kernel
theorem dL_law_765 : decode cL_law 765 = .ok (.aload_n 0, 1) := by decide +kernel
theorem dL_law_766 : decode cL_law 766 = .ok (.iload_n 3, 1) := by decide +kernel
theorem dL_law_767 : decode cL_law 767 = .ok (.iconst 2, 1) := by decide +kernel
theorem dL_law_768 : decode cL_law 768 = .ok (.iadd, 1) := by decide +kernel
theorem dL_law_769 : decode cL_law 769 = .ok (.iaload, 1) := by decide +kernel
theorem dL_law_770 : decode cL_law 770 = .ok (.aload_n 0, 1) := by decide +kernel
theorem dL_law_771 : decode cL_law 771 = .ok (.iload_n 3, 1) := by decide +kernel
theorem dL_law_772 : decode cL_law 772 = .ok (.iconst 3, 1) := by decide +kernel
theorem dL_law_773 : decode cL_law 773 = .ok (.iadd, 1) := by decide +kernel
theorem dL_law_774 : decode cL_law 774 = .ok (.iaload, 1) := by decide +kernel
theorem dL_law_775 : decode cL_law 775 = .ok (.invokevirtual 92, 3) := by decide +kernel
theorem dL_law_778 : decode cL_law 778 = .ok (.aload_n 2, 1) := by decide +kernel
theorem dL_law_779 : decode cL_law 779 = .ok (.aload_n 0, 1) := by decide +kernel
theorem dL_law_780 : decode cL_law 780 = .ok (.iload_n 3, 1) := by decide +kernel
theorem dL_law_781 : decode cL_law 781 = .ok (.iconst 1, 1) := by decide +kernel
theorem dL_law_782 : decode cL_law 782 = .ok (.iadd, 1) := by decide +kernel
theorem dL_law_783 : decode cL_law 783 = .ok (.iaload, 1) := by decide +kernel
theorem dL_law_784 : decode cL_law 784 = .ok (.aload_n 0, 1) := by decide +kernel
theorem dL_law_785 : decode cL_law 785 = .ok (.iload_n 3, 1) := by decide +kernel
theorem dL_law_786 : decode cL_law 786 = .ok (.iconst 2, 1) := by decide +kernel
theorem dL_law_787 : decode cL_law 787 = .ok (.iadd, 1) := by decide +kernel
theorem dL_law_788 : decode cL_law 788 = .ok (.iaload, 1) := by decide +kernel
theorem dL_law_789 : decode cL_law 789 = .ok (.aload_n 0, 1) := by decide +kernel
theorem dL_law_790 : decode cL_law 790 = .ok (.iload_n 3, 1) := by decide +kernel
theorem dL_law_791 : decode cL_law 791 = .ok (.iconst 3, 1) := by decide +kernel
theorem dL_law_792 : decode cL_law 792 = .ok (.iadd, 1) := by decide +kernel
theorem dL_law_793 : decode cL_law 793 = .ok (.iaload, 1) := by decide +kernel
theorem dL_law_794 : decode cL_law 794 = .ok (.invokevirtual 96, 3) := by decide +kernel
theorem dL_law_797 : decode cL_law 797 = .ok (.lcmp, 1) := by decide +kernel
theorem dL_law_798 : decode cL_law 798 = .ok (.ifCond .eq 515, 3) := by decide +kernel
theorem dL_law_801 : decode cL_law 801 = .ok (.iconst 0, 1) := by decide +kernel
theorem dL_law_802 : decode cL_law 802 = .ok (.ireturn, 1) := by decide +kernel
theorem dL_law_803 : decode cL_law 803 = .ok (.aload_n 1, 1) := by decide +kernel
theorem dL_law_804 : decode cL_law 804 = .ok (.aload_n 0, 1) := by decide +kernel
theorem dL_law_805 : decode cL_law 805 = .ok (.iload_n 3, 1) := by decide +kernel
theorem dL_law_806 : decode cL_law 806 = .ok (.iconst 1, 1) := by decide +kernel
theorem dL_law_807 : decode cL_law 807 = .ok (.iadd, 1) := by decide +kernel
theorem dL_law_808 : decode cL_law 808 = .ok (.iaload, 1) := by decide +kernel
theorem dL_law_809 : decode cL_law 809 = .ok (.aload_n 0, 1) := by decide +kernel
theorem dL_law_810 : decode cL_law 810 = .ok (.iload_n 3, 1) := by decide +kernel
theorem dL_law_811 : decode cL_law 811 = .ok (.iconst 2, 1) := by decide +kernel
theorem dL_law_812 : decode cL_law 812 = .ok (.iadd, 1) := by decide +kernel
theorem dL_law_813 : decode cL_law 813 = .ok (.iaload, 1) := by decide +kernel
theorem dL_law_814 : decode cL_law 814 = .ok (.aload_n 0, 1) := by decide +kernel
theorem dL_law_815 : decode cL_law 815 = .ok (.iload_n 3, 1) := by decide +kernel
theorem dL_law_816 : decode cL_law 816 = .ok (.iconst 3, 1) := by decide +kernel
theorem dL_law_817 : decode cL_law 817 = .ok (.iadd, 1) := by decide +kernel
theorem dL_law_818 : decode cL_law 818 = .ok (.iaload, 1) := by decide +kernel
theorem dL_law_819 : decode cL_law 819 = .ok (.invokevirtual 97, 3) := by decide +kernel
theorem dL_law_822 : decode cL_law 822 = .ok (.aload_n 2, 1) := by decide +kernel
theorem dL_law_823 : decode cL_law 823 = .ok (.aload_n 0, 1) := by decide +kernel
theorem dL_law_824 : decode cL_law 824 = .ok (.iload_n 3, 1) := by decide +kernel
theorem dL_law_825 : decode cL_law 825 = .ok (.iconst 1, 1) := by decide +kernel
theorem dL_law_826 : decode cL_law 826 = .ok (.iadd, 1) := by decide +kernel
theorem dL_law_827 : decode cL_law 827 = .ok (.iaload, 1) := by decide +kernel
theorem dL_law_828 : decode cL_law 828 = .ok (.aload_n 0, 1) := by decide +kernel
theorem dL_law_829 : decode cL_law 829 = .ok (.iload_n 3, 1) := by decide +kernel
theorem dL_law_830 : decode cL_law 830 = .ok (.iconst 2, 1) := by decide +kernel
theorem dL_law_831 : decode cL_law 831 = .ok (.iadd, 1) := by decide +kernel
theorem dL_law_832 : decode cL_law 832 = .ok (.iaload, 1) := by decide +kernel
theorem dL_law_833 : decode cL_law 833 = .ok (.aload_n 0, 1) := by decide +kernel
theorem dL_law_834 : decode cL_law 834 = .ok (.iload_n 3, 1) := by decide +kernel
theorem dL_law_835 : decode cL_law 835 = .ok (.iconst 3, 1) := by decide +kernel
theorem dL_law_836 : decode cL_law 836 = .ok (.iadd, 1) := by decide +kernel
theorem dL_law_837 : decode cL_law 837 = .ok (.iaload, 1) := by decide +kernel
theorem dL_law_838 : decode cL_law 838 = .ok (.invokevirtual 100, 3) := by decide +kernel
theorem dL_law_841 : decode cL_law 841 = .ok (.if_icmp .eq 472, 3) := by decide +kernel
theorem dL_law_844 : decode cL_law 844 = .ok (.iconst 0, 1) := by decide +kernel
theorem dL_law_845 : decode cL_law 845 = .ok (.ireturn, 1) := by decide +kernel
theorem dL_law_846 : decode cL_law 846 = .ok (.aload_n 1, 1) := by decide +kernel
theorem dL_law_847 : decode cL_law 847 = .ok (.aload_n 0, 1) := by decide +kernel
theorem dL_law_848 : decode cL_law 848 = .ok (.iload_n 3, 1) := by decide +kernel
theorem dL_law_849 : decode cL_law 849 = .ok (.iconst 1, 1) := by decide +kernel
theorem dL_law_850 : decode cL_law 850 = .ok (.iadd, 1) := by decide +kernel
theorem dL_law_851 : decode cL_law 851 = .ok (.iaload, 1) := by decide +kernel
theorem dL_law_852 : decode cL_law 852 = .ok (.aload_n 0, 1) := by decide +kernel
theorem dL_law_853 : decode cL_law 853 = .ok (.iload_n 3, 1) := by decide +kernel
theorem dL_law_854 : decode cL_law 854 = .ok (.iconst 2, 1) := by decide +kernel
theorem dL_law_855 : decode cL_law 855 = .ok (.iadd, 1) := by decide +kernel
theorem dL_law_856 : decode cL_law 856 = .ok (.iaload, 1) := by decide +kernel
theorem dL_law_857 : decode cL_law 857 = .ok (.invokevirtual 101, 3) := by decide +kernel
theorem dL_law_860 : decode cL_law 860 = .ok (.aload_n 2, 1) := by decide +kernel
theorem dL_law_861 : decode cL_law 861 = .ok (.aload_n 0, 1) := by decide +kernel
theorem dL_law_862 : decode cL_law 862 = .ok (.iload_n 3, 1) := by decide +kernel
theorem dL_law_863 : decode cL_law 863 = .ok (.iconst 1, 1) := by decide +kernel
theorem dL_law_864 : decode cL_law 864 = .ok (.iadd, 1) := by decide +kernel
theorem dL_law_865 : decode cL_law 865 = .ok (.iaload, 1) := by decide +kernel
theorem dL_law_866 : decode cL_law 866 = .ok (.aload_n 0, 1) := by decide +kernel
theorem dL_law_867 : decode cL_law 867 = .ok (.iload_n 3, 1) := by decide +kernel
theorem dL_law_868 : decode cL_law 868 = .ok (.iconst 2, 1) := by decide +kernel
theorem dL_law_869 : decode cL_law 869 = .ok (.iadd, 1) := by decide +kernel
theorem dL_law_870 : decode cL_law 870 = .ok (.iaload, 1) := by decide +kernel
theorem dL_law_871 : decode cL_law 871 = .ok (.invokevirtual 104, 3) := by decide +kernel
theorem dL_law_874 : decode cL_law 874 = .ok (.if_icmp .eq 439, 3) := by decide +kernel
theorem dL_law_877 : decode cL_law 877 = .ok (.iconst 0, 1) := by decide +kernel
theorem dL_law_878 : decode cL_law 878 = .ok (.ireturn, 1) := by decide +kernel
theorem dL_law_879 : decode cL_law 879 = .ok (.aload_n 1, 1) := by decide +kernel
theorem dL_law_880 : decode cL_law 880 = .ok (.aload_n 0, 1) := by decide +kernel
theorem dL_law_881 : decode cL_law 881 = .ok (.iload_n 3, 1) := by decide +kernel
theorem dL_law_882 : decode cL_law 882 = .ok (.iconst 1, 1) := by decide +kernel
theorem dL_law_883 : decode cL_law 883 = .ok (.iadd, 1) := by decide +kernel
theorem dL_law_884 : decode cL_law 884 = .ok (.iaload, 1) := by decide +kernel
theorem dL_law_885 : decode cL_law 885 = .ok (.invokevirtual 105, 3) := by decide +kernel
theorem dL_law_888 : decode cL_law 888 = .ok (.aload_n 2, 1) := by decide +kernel
theorem dL_law_889 : decode cL_law 889 = .ok (.aload_n 0, 1) := by decide +kernel
theorem dL_law_890 : decode cL_law 890 = .ok (.iload_n 3, 1) := by decide +kernel
theorem dL_law_891 : decode cL_law 891 = .ok (.iconst 1, 1) := by decide +kernel
theorem dL_law_892 : decode cL_law 892 = .ok (.iadd, 1) := by decide +kernel
theorem dL_law_893 : decode cL_law 893 = .ok (.iaload, 1) := by decide +kernel
theorem dL_law_894 : decode cL_law 894 = .ok (.invokevirtual 108, 3) := by decide +kernel
theorem dL_law_897 : decode cL_law 897 = .ok (.if_icmp .eq 416, 3) := by decide +kernel
theorem dL_law_900 : decode cL_law 900 = .ok (.iconst 0, 1) := by decide +kernel
theorem dL_law_901 : decode cL_law 901 = .ok (.ireturn, 1) := by decide +kernel
theorem dL_law_902 : decode cL_law 902 = .ok (.aload_n 1, 1) := by decide +kernel
theorem dL_law_903 : decode cL_law 903 = .ok (.aload_n 0, 1) := by decide +kernel
theorem dL_law_904 : decode cL_law 904 = .ok (.iload_n 3, 1) := by decide +kernel
theorem dL_law_905 : decode cL_law 905 = .ok (.iconst 1, 1) := by decide +kernel
theorem dL_law_906 : decode cL_law 906 = .ok (.iadd, 1) := by decide +kernel
theorem dL_law_907 : decode cL_law 907 = .ok (.iaload, 1) := by decide +kernel
theorem dL_law_908 : decode cL_law 908 = .ok (.aload_n 0, 1) := by decide +kernel
theorem dL_law_909 : decode cL_law 909 = .ok (.iload_n 3, 1) := by decide +kernel
theorem dL_law_910 : decode cL_law 910 = .ok (.iconst 2, 1) := by decide +kernel
theorem dL_law_911 : decode cL_law 911 = .ok (.iadd, 1) := by decide +kernel
theorem dL_law_912 : decode cL_law 912 = .ok (.iaload, 1) := by decide +kernel
theorem dL_law_913 : decode cL_law 913 = .ok (.invokevirtual 109, 3) := by decide +kernel
theorem dL_law_916 : decode cL_law 916 = .ok (.aload_n 2, 1) := by decide +kernel
theorem dL_law_917 : decode cL_law 917 = .ok (.aload_n 0, 1) := by decide +kernel
theorem dL_law_918 : decode cL_law 918 = .ok (.iload_n 3, 1) := by decide +kernel
theorem dL_law_919 : decode cL_law 919 = .ok (.iconst 1, 1) := by decide +kernel
theorem dL_law_920 : decode cL_law 920 = .ok (.iadd, 1) := by decide +kernel
theorem dL_law_921 : decode cL_law 921 = .ok (.iaload, 1) := by decide +kernel
theorem dL_law_922 : decode cL_law 922 = .ok (.aload_n 0, 1) := by decide +kernel
theorem dL_law_923 : decode cL_law 923 = .ok (.iload_n 3, 1) := by decide +kernel
theorem dL_law_924 : decode cL_law 924 = .ok (.iconst 2, 1) := by decide +kernel
theorem dL_law_925 : decode cL_law 925 = .ok (.iadd, 1) := by decide +kernel
theorem dL_law_926 : decode cL_law 926 = .ok (.iaload, 1) := by decide +kernel
theorem dL_law_927 : decode cL_law 927 = .ok (.invokevirtual 112, 3) := by decide +kernel
theorem dL_law_930 : decode cL_law 930 = .ok (.if_icmp .eq 383, 3) := by decide +kernel
theorem dL_law_933 : decode cL_law 933 = .ok (.iconst 0, 1) := by decide +kernel
theorem dL_law_934 : decode cL_law 934 = .ok (.ireturn, 1) := by decide +kernel
theorem dL_law_935 : decode cL_law 935 = .ok (.aload_n 1, 1) := by decide +kernel
theorem dL_law_936 : decode cL_law 936 = .ok (.aload_n 0, 1) := by decide +kernel
theorem dL_law_937 : decode cL_law 937 = .ok (.iload_n 3, 1) := by decide +kernel
theorem dL_law_938 : decode cL_law 938 = .ok (.iconst 1, 1) := by decide +kernel
theorem dL_law_939 : decode cL_law 939 = .ok (.iadd, 1) := by decide +kernel
theorem dL_law_940 : decode cL_law 940 = .ok (.iaload, 1) := by decide +kernel
theorem dL_law_941 : decode cL_law 941 = .ok (.invokevirtual 113, 3) := by decide +kernel
theorem dL_law_944 : decode cL_law 944 = .ok (.aload_n 2, 1) := by decide +kernel
theorem dL_law_945 : decode cL_law 945 = .ok (.aload_n 0, 1) := by decide +kernel
theorem dL_law_946 : decode cL_law 946 = .ok (.iload_n 3, 1) := by decide +kernel
theorem dL_law_947 : decode cL_law 947 = .ok (.iconst 1, 1) := by decide +kernel
theorem dL_law_948 : decode cL_law 948 = .ok (.iadd, 1) := by decide +kernel
theorem dL_law_949 : decode cL_law 949 = .ok (.iaload, 1) := by decide +kernel
theorem dL_law_950 : decode cL_law 950 = .ok (.invokevirtual 116, 3) := by decide +kernel
theorem dL_law_953 : decode cL_law 953 = .ok (.if_icmp .eq 360, 3) := by decide +kernel
theorem dL_law_956 : decode cL_law 956 = .ok (.iconst 0, 1) := by decide +kernel
theorem dL_law_957 : decode cL_law 957 = .ok (.ireturn, 1) := by decide +kernel
theorem dL_law_958 : decode cL_law 958 = .ok (.aload_n 1, 1) := by decide +kernel
theorem dL_law_959 : decode cL_law 959 = .ok (.aload_n 0, 1) := by decide +kernel
theorem dL_law_960 : decode cL_law 960 = .ok (.iload_n 3, 1) := by decide +kernel
theorem dL_law_961 : decode cL_law 961 = .ok (.iconst 1, 1) := by decide +kernel
theorem dL_law_962 : decode cL_law 962 = .ok (.iadd, 1) := by decide +kernel
theorem dL_law_963 : decode cL_law 963 = .ok (.iaload, 1) := by decide +kernel
theorem dL_law_964 : decode cL_law 964 = .ok (.invokevirtual 117, 3) := by decide +kernel
theorem dL_law_967 : decode cL_law 967 = .ok (.aload_n 2, 1) := by decide +kernel
theorem dL_law_968 : decode cL_law 968 = .ok (.aload_n 0, 1) := by decide +kernel
theorem dL_law_969 : decode cL_law 969 = .ok (.iload_n 3, 1) := by decide +kernel
theorem dL_law_970 : decode cL_law 970 = .ok (.iconst 1, 1) := by decide +kernel
theorem dL_law_971 : decode cL_law 971 = .ok (.iadd, 1) := by decide +kernel
theorem dL_law_972 : decode cL_law 972 = .ok (.iaload, 1) := by decide +kernel
theorem dL_law_973 : decode cL_law 973 = .ok (.invokevirtual 120, 3) := by decide +kernel
theorem dL_law_976 : decode cL_law 976 = .ok (.if_icmp .eq 337, 3) := by decide +kernel
theorem dL_law_979 : decode cL_law 979 = .ok (.iconst 0, 1) := by decide +kernel
theorem dL_law_980 : decode cL_law 980 = .ok (.ireturn, 1) := by decide +kernel
theorem dL_law_981 : decode cL_law 981 = .ok (.aload_n 1, 1) := by decide +kernel
theorem dL_law_982 : decode cL_law 982 = .ok (.invokevirtual 121, 3) := by decide +kernel
theorem dL_law_985 : decode cL_law 985 = .ok (.aload_n 2, 1) := by decide +kernel
theorem dL_law_986 : decode cL_law 986 = .ok (.invokevirtual 125, 3) := by decide +kernel
theorem dL_law_989 : decode cL_law 989 = .ok (.if_icmp .eq 324, 3) := by decide +kernel
theorem dL_law_992 : decode cL_law 992 = .ok (.iconst 0, 1) := by decide +kernel
theorem dL_law_993 : decode cL_law 993 = .ok (.ireturn, 1) := by decide +kernel
theorem dL_law_994 : decode cL_law 994 = .ok (.aload_n 1, 1) := by decide +kernel
theorem dL_law_995 : decode cL_law 995 = .ok (.aload_n 0, 1) := by decide +kernel
theorem dL_law_996 : decode cL_law 996 = .ok (.iload_n 3, 1) := by decide +kernel
theorem dL_law_997 : decode cL_law 997 = .ok (.iconst 1, 1) := by decide +kernel
theorem dL_law_998 : decode cL_law 998 = .ok (.iadd, 1) := by decide +kernel
theorem dL_law_999 : decode cL_law 999 = .ok (.iaload, 1) := by decide +kernel
theorem dL_law_1000 : decode cL_law 1000 = .ok (.aload_n 0, 1) := by decide +kernel
theorem dL_law_1001 : decode cL_law 1001 = .ok (.iload_n 3, 1) := by decide +kernel
theorem dL_law_1002 : decode cL_law 1002 = .ok (.iconst 2, 1) := by decide +kernel
theorem dL_law_1003 : decode cL_law 1003 = .ok (.iadd, 1) := by decide +kernel
theorem dL_law_1004 : decode cL_law 1004 = .ok (.iaload, 1) := by decide +kernel
theorem dL_law_1005 : decode cL_law 1005 = .ok (.invokevirtual 126, 3) := by decide +kernel
theorem dL_law_1008 : decode cL_law 1008 = .ok (.aload_n 2, 1) := by decide +kernel
theorem dL_law_1009 : decode cL_law 1009 = .ok (.aload_n 0, 1) := by decide +kernel
theorem dL_law_1010 : decode cL_law 1010 = .ok (.iload_n 3, 1) := by decide +kernel
theorem dL_law_1011 : decode cL_law 1011 = .ok (.iconst 1, 1) := by decide +kernel
theorem dL_law_1012 : decode cL_law 1012 = .ok (.iadd, 1) := by decide +kernel
theorem dL_law_1013 : decode cL_law 1013 = .ok (.iaload, 1) := by decide +kernel
theorem dL_law_1014 : decode cL_law 1014 = .ok (.aload_n 0, 1) := by decide +kernel
theorem dL_law_1015 : decode cL_law 1015 = .ok (.iload_n 3, 1) := by decide +kernel
theorem dL_law_1016 : decode cL_law 1016 = .ok (.iconst 2, 1) := by decide +kernel
theorem dL_law_1017 : decode cL_law 1017 = .ok (.iadd, 1) := by decide +kernel
theorem dL_law_1018 : decode cL_law 1018 = .ok (.iaload, 1) := by decide +kernel
theorem dL_law_1019 : decode cL_law 1019 = .ok (.invokevirtual 130, 3) := by decide +kernel
theorem dL_law_1022 : decode cL_law 1022 = .ok (.lcmp, 1) := by decide +kernel
theorem dL_law_1023 : decode cL_law 1023 = .ok (.ifCond .eq 290, 3) := by decide +kernel
theorem dL_law_1026 : decode cL_law 1026 = .ok (.iconst 0, 1) := by decide +kernel
theorem dL_law_1027 : decode cL_law 1027 = .ok (.ireturn, 1) := by decide +kernel
theorem dL_law_1028 : decode cL_law 1028 = .ok (.aload_n 1, 1) := by decide +kernel
theorem dL_law_1029 : decode cL_law 1029 = .ok (.aload_n 0, 1) := by decide +kernel
theorem dL_law_1030 : decode cL_law 1030 = .ok (.iload_n 3, 1) := by decide +kernel
theorem dL_law_1031 : decode cL_law 1031 = .ok (.iconst 1, 1) := by decide +kernel
theorem dL_law_1032 : decode cL_law 1032 = .ok (.iadd, 1) := by decide +kernel
theorem dL_law_1033 : decode cL_law 1033 = .ok (.iaload, 1) := by decide +kernel
theorem dL_law_1034 : decode cL_law 1034 = .ok (.aload_n 0, 1) := by decide +kernel
theorem dL_law_1035 : decode cL_law 1035 = .ok (.iload_n 3, 1) := by decide +kernel
theorem dL_law_1036 : decode cL_law 1036 = .ok (.iconst 2, 1) := by decide +kernel
theorem dL_law_1037 : decode cL_law 1037 = .ok (.iadd, 1) := by decide +kernel
theorem dL_law_1038 : decode cL_law 1038 = .ok (.iaload, 1) := by decide +kernel
theorem dL_law_1039 : decode cL_law 1039 = .ok (.aload_n 0, 1) := by decide +kernel
theorem dL_law_1040 : decode cL_law 1040 = .ok (.iload_n 3, 1) := by decide +kernel
theorem dL_law_1041 : decode cL_law 1041 = .ok (.iconst 3, 1) := by decide +kernel
theorem dL_law_1042 : decode cL_law 1042 = .ok (.iadd, 1) := by decide +kernel
theorem dL_law_1043 : decode cL_law 1043 = .ok (.iaload, 1) := by decide +kernel
theorem dL_law_1044 : decode cL_law 1044 = .ok (.invokevirtual 131, 3) := by decide +kernel
theorem dL_law_1047 : decode cL_law 1047 = .ok (.aload_n 2, 1) := by decide +kernel
theorem dL_law_1048 : decode cL_law 1048 = .ok (.aload_n 0, 1) := by decide +kernel
theorem dL_law_1049 : decode cL_law 1049 = .ok (.iload_n 3, 1) := by decide +kernel
theorem dL_law_1050 : decode cL_law 1050 = .ok (.iconst 1, 1) := by decide +kernel
theorem dL_law_1051 : decode cL_law 1051 = .ok (.iadd, 1) := by decide +kernel
theorem dL_law_1052 : decode cL_law 1052 = .ok (.iaload, 1) := by decide +kernel
theorem dL_law_1053 : decode cL_law 1053 = .ok (.aload_n 0, 1) := by decide +kernel
theorem dL_law_1054 : decode cL_law 1054 = .ok (.iload_n 3, 1) := by decide +kernel
theorem dL_law_1055 : decode cL_law 1055 = .ok (.iconst 2, 1) := by decide +kernel
theorem dL_law_1056 : decode cL_law 1056 = .ok (.iadd, 1) := by decide +kernel
theorem dL_law_1057 : decode cL_law 1057 = .ok (.iaload, 1) := by decide +kernel
theorem dL_law_1058 : decode cL_law 1058 = .ok (.aload_n 0, 1) := by decide +kernel
theorem dL_law_1059 : decode cL_law 1059 = .ok (.iload_n 3, 1) := by decide +kernel
theorem dL_law_1060 : decode cL_law 1060 = .ok (.iconst 3, 1) := by decide +kernel
theorem dL_law_1061 : decode cL_law 1061 = .ok (.iadd, 1) := by decide +kernel
theorem dL_law_1062 : decode cL_law 1062 = .ok (.iaload, 1) := by decide +kernel
theorem dL_law_1063 : decode cL_law 1063 = .ok (.invokevirtual 134, 3) := by decide +kernel
theorem dL_law_1066 : decode cL_law 1066 = .ok (.if_icmp .eq 247, 3) := by decide +kernel
theorem dL_law_1069 : decode cL_law 1069 = .ok (.iconst 0, 1) := by decide +kernel
theorem dL_law_1070 : decode cL_law 1070 = .ok (.ireturn, 1) := by decide +kernel
theorem dL_law_1071 : decode cL_law 1071 = .ok (.aload_n 1, 1) := by decide +kernel
theorem dL_law_1072 : decode cL_law 1072 = .ok (.aload_n 0, 1) := by decide +kernel
theorem dL_law_1073 : decode cL_law 1073 = .ok (.iload_n 3, 1) := by decide +kernel
theorem dL_law_1074 : decode cL_law 1074 = .ok (.iconst 1, 1) := by decide +kernel
theorem dL_law_1075 : decode cL_law 1075 = .ok (.iadd, 1) := by decide +kernel
theorem dL_law_1076 : decode cL_law 1076 = .ok (.iaload, 1) := by decide +kernel
theorem dL_law_1077 : decode cL_law 1077 = .ok (.invokevirtual 135, 3) := by decide +kernel
theorem dL_law_1080 : decode cL_law 1080 = .ok (.aload_n 2, 1) := by decide +kernel
theorem dL_law_1081 : decode cL_law 1081 = .ok (.aload_n 0, 1) := by decide +kernel
theorem dL_law_1082 : decode cL_law 1082 = .ok (.iload_n 3, 1) := by decide +kernel
theorem dL_law_1083 : decode cL_law 1083 = .ok (.iconst 1, 1) := by decide +kernel
theorem dL_law_1084 : decode cL_law 1084 = .ok (.iadd, 1) := by decide +kernel
theorem dL_law_1085 : decode cL_law 1085 = .ok (.iaload, 1) := by decide +kernel
theorem dL_law_1086 : decode cL_law 1086 = .ok (.invokevirtual 138, 3) := by decide +kernel
theorem dL_law_1089 : decode cL_law 1089 = .ok (.if_icmp .eq 224, 3) := by decide +kernel
theorem dL_law_1092 : decode cL_law 1092 = .ok (.iconst 0, 1) := by decide +kernel
theorem dL_law_1093 : decode cL_law 1093 = .ok (.ireturn, 1) := by decide +kernel
theorem dL_law_1094 : decode cL_law 1094 = .ok (.aload_n 1, 1) := by decide +kernel
theorem dL_law_1095 : decode cL_law 1095 = .ok (.aload_n 0, 1) := by decide +kernel
theorem dL_law_1096 : decode cL_law 1096 = .ok (.iload_n 3, 1) := by decide +kernel
theorem dL_law_1097 : decode cL_law 1097 = .ok (.iconst 1, 1) := by decide +kernel
theorem dL_law_1098 : decode cL_law 1098 = .ok (.iadd, 1) := by decide +kernel
theorem dL_law_1099 : decode cL_law 1099 = .ok (.iaload, 1) := by decide +kernel
theorem dL_law_1100 : decode cL_law 1100 = .ok (.aload_n 0, 1) := by decide +kernel
theorem dL_law_1101 : decode cL_law 1101 = .ok (.iload_n 3, 1) := by decide +kernel
theorem dL_law_1102 : decode cL_law 1102 = .ok (.iconst 2, 1) := by decide +kernel
theorem dL_law_1103 : decode cL_law 1103 = .ok (.iadd, 1) := by decide +kernel
theorem dL_law_1104 : decode cL_law 1104 = .ok (.iaload, 1) := by decide +kernel
theorem dL_law_1105 : decode cL_law 1105 = .ok (.aload_n 0, 1) := by decide +kernel
theorem dL_law_1106 : decode cL_law 1106 = .ok (.iload_n 3, 1) := by decide +kernel
theorem dL_law_1107 : decode cL_law 1107 = .ok (.iconst 3, 1) := by decide +kernel
theorem dL_law_1108 : decode cL_law 1108 = .ok (.iadd, 1) := by decide +kernel
theorem dL_law_1109 : decode cL_law 1109 = .ok (.iaload, 1) := by decide +kernel
theorem dL_law_1110 : decode cL_law 1110 = .ok (.aload_n 0, 1) := by decide +kernel
theorem dL_law_1111 : decode cL_law 1111 = .ok (.iload_n 3, 1) := by decide +kernel
theorem dL_law_1112 : decode cL_law 1112 = .ok (.iconst 4, 1) := by decide +kernel
theorem dL_law_1113 : decode cL_law 1113 = .ok (.iadd, 1) := by decide +kernel
theorem dL_law_1114 : decode cL_law 1114 = .ok (.iaload, 1) := by decide +kernel
theorem dL_law_1115 : decode cL_law 1115 = .ok (.invokevirtual 139, 3) := by decide +kernel
theorem dL_law_1118 : decode cL_law 1118 = .ok (.aload_n 2, 1) := by decide +kernel
theorem dL_law_1119 : decode cL_law 1119 = .ok (.aload_n 0, 1) := by decide +kernel
theorem dL_law_1120 : decode cL_law 1120 = .ok (.iload_n 3, 1) := by decide +kernel
theorem dL_law_1121 : decode cL_law 1121 = .ok (.iconst 1, 1) := by decide +kernel
theorem dL_law_1122 : decode cL_law 1122 = .ok (.iadd, 1) := by decide +kernel
theorem dL_law_1123 : decode cL_law 1123 = .ok (.iaload, 1) := by decide +kernel
theorem dL_law_1124 : decode cL_law 1124 = .ok (.aload_n 0, 1) := by decide +kernel
theorem dL_law_1125 : decode cL_law 1125 = .ok (.iload_n 3, 1) := by decide +kernel
theorem dL_law_1126 : decode cL_law 1126 = .ok (.iconst 2, 1) := by decide +kernel
theorem dL_law_1127 : decode cL_law 1127 = .ok (.iadd, 1) := by decide +kernel
theorem dL_law_1128 : decode cL_law 1128 = .ok (.iaload, 1) := by decide +kernel
theorem dL_law_1129 : decode cL_law 1129 = .ok (.aload_n 0, 1) := by decide +kernel
theorem dL_law_1130 : decode cL_law 1130 = .ok (.iload_n 3, 1) := by decide +kernel
theorem dL_law_1131 : decode cL_law 1131 = .ok (.iconst 3, 1) := by decide +kernel
theorem dL_law_1132 : decode cL_law 1132 = .ok (.iadd, 1) := by decide +kernel
theorem dL_law_1133 : decode cL_law 1133 = .ok (.iaload, 1) := by decide +kernel
theorem dL_law_1134 : decode cL_law 1134 = .ok (.aload_n 0, 1) := by decide +kernel
theorem dL_law_1135 : decode cL_law 1135 = .ok (.iload_n 3, 1) := by decide +kernel
theorem dL_law_1136 : decode cL_law 1136 = .ok (.iconst 4, 1) := by decide +kernel
theorem dL_law_1137 : decode cL_law 1137 = .ok (.iadd, 1) := by decide +kernel
theorem dL_law_1138 : decode cL_law 1138 = .ok (.iaload, 1) := by decide +kernel
theorem dL_law_1139 : decode cL_law 1139 = .ok (.invokevirtual 143, 3) := by decide +kernel
theorem dL_law_1142 : decode cL_law 1142 = .ok (.if_icmp .eq 171, 3) := by decide +kernel
theorem dL_law_1145 : decode cL_law 1145 = .ok (.iconst 0, 1) := by decide +kernel
theorem dL_law_1146 : decode cL_law 1146 = .ok (.ireturn, 1) := by decide +kernel
theorem dL_law_1147 : decode cL_law 1147 = .ok (.aload_n 1, 1) := by decide +kernel
theorem dL_law_1148 : decode cL_law 1148 = .ok (.aload_n 0, 1) := by decide +kernel
theorem dL_law_1149 : decode cL_law 1149 = .ok (.iload_n 3, 1) := by decide +kernel
theorem dL_law_1150 : decode cL_law 1150 = .ok (.iconst 1, 1) := by decide +kernel
theorem dL_law_1151 : decode cL_law 1151 = .ok (.iadd, 1) := by decide +kernel
theorem dL_law_1152 : decode cL_law 1152 = .ok (.iaload, 1) := by decide +kernel
theorem dL_law_1153 : decode cL_law 1153 = .ok (.aload_n 0, 1) := by decide +kernel
theorem dL_law_1154 : decode cL_law 1154 = .ok (.iload_n 3, 1) := by decide +kernel
theorem dL_law_1155 : decode cL_law 1155 = .ok (.iconst 2, 1) := by decide +kernel
theorem dL_law_1156 : decode cL_law 1156 = .ok (.iadd, 1) := by decide +kernel
theorem dL_law_1157 : decode cL_law 1157 = .ok (.iaload, 1) := by decide +kernel
theorem dL_law_1158 : decode cL_law 1158 = .ok (.aload_n 0, 1) := by decide +kernel
theorem dL_law_1159 : decode cL_law 1159 = .ok (.iload_n 3, 1) := by decide +kernel
theorem dL_law_1160 : decode cL_law 1160 = .ok (.iconst 3, 1) := by decide +kernel
theorem dL_law_1161 : decode cL_law 1161 = .ok (.iadd, 1) := by decide +kernel
theorem dL_law_1162 : decode cL_law 1162 = .ok (.iaload, 1) := by decide +kernel
theorem dL_law_1163 : decode cL_law 1163 = .ok (.invokevirtual 144, 3) := by decide +kernel
theorem dL_law_1166 : decode cL_law 1166 = .ok (.aload_n 2, 1) := by decide +kernel
theorem dL_law_1167 : decode cL_law 1167 = .ok (.aload_n 0, 1) := by decide +kernel
theorem dL_law_1168 : decode cL_law 1168 = .ok (.iload_n 3, 1) := by decide +kernel
theorem dL_law_1169 : decode cL_law 1169 = .ok (.iconst 1, 1) := by decide +kernel
theorem dL_law_1170 : decode cL_law 1170 = .ok (.iadd, 1) := by decide +kernel
theorem dL_law_1171 : decode cL_law 1171 = .ok (.iaload, 1) := by decide +kernel
theorem dL_law_1172 : decode cL_law 1172 = .ok (.aload_n 0, 1) := by decide +kernel
theorem dL_law_1173 : decode cL_law 1173 = .ok (.iload_n 3, 1) := by decide +kernel
theorem dL_law_1174 : decode cL_law 1174 = .ok (.iconst 2, 1) := by decide +kernel
theorem dL_law_1175 : decode cL_law 1175 = .ok (.iadd, 1) := by decide +kernel
theorem dL_law_1176 : decode cL_law 1176 = .ok (.iaload, 1) := by decide +kernel
theorem dL_law_1177 : decode cL_law 1177 = .ok (.aload_n 0, 1) := by decide +kernel
theorem dL_law_1178 : decode cL_law 1178 = .ok (.iload_n 3, 1) := by decide +kernel
theorem dL_law_1179 : decode cL_law 1179 = .ok (.iconst 3, 1) := by decide +kernel
theorem dL_law_1180 : decode cL_law 1180 = .ok (.iadd, 1) := by decide +kernel
theorem dL_law_1181 : decode cL_law 1181 = .ok (.iaload, 1) := by decide +kernel
theorem dL_law_1182 : decode cL_law 1182 = .ok (.invokevirtual 147, 3) := by decide +kernel
theorem dL_law_1185 : decode cL_law 1185 = .ok (.if_icmp .eq 128, 3) := by decide +kernel
theorem dL_law_1188 : decode cL_law 1188 = .ok (.iconst 0, 1) := by decide +kernel
theorem dL_law_1189 : decode cL_law 1189 = .ok (.ireturn, 1) := by decide +kernel
theorem dL_law_1190 : decode cL_law 1190 = .ok (.aload_n 1, 1) := by decide +kernel
theorem dL_law_1191 : decode cL_law 1191 = .ok (.aload_n 0, 1) := by decide +kernel
theorem dL_law_1192 : decode cL_law 1192 = .ok (.iload_n 3, 1) := by decide +kernel
theorem dL_law_1193 : decode cL_law 1193 = .ok (.iconst 1, 1) := by decide +kernel
theorem dL_law_1194 : decode cL_law 1194 = .ok (.iadd, 1) := by decide +kernel
theorem dL_law_1195 : decode cL_law 1195 = .ok (.iaload, 1) := by decide +kernel
theorem dL_law_1196 : decode cL_law 1196 = .ok (.aload_n 0, 1) := by decide +kernel
theorem dL_law_1197 : decode cL_law 1197 = .ok (.iload_n 3, 1) := by decide +kernel
theorem dL_law_1198 : decode cL_law 1198 = .ok (.iconst 2, 1) := by decide +kernel
theorem dL_law_1199 : decode cL_law 1199 = .ok (.iadd, 1) := by decide +kernel
theorem dL_law_1200 : decode cL_law 1200 = .ok (.iaload, 1) := by decide +kernel
theorem dL_law_1201 : decode cL_law 1201 = .ok (.aload_n 0, 1) := by decide +kernel
theorem dL_law_1202 : decode cL_law 1202 = .ok (.iload_n 3, 1) := by decide +kernel
theorem dL_law_1203 : decode cL_law 1203 = .ok (.iconst 3, 1) := by decide +kernel
theorem dL_law_1204 : decode cL_law 1204 = .ok (.iadd, 1) := by decide +kernel
theorem dL_law_1205 : decode cL_law 1205 = .ok (.iaload, 1) := by decide +kernel
theorem dL_law_1206 : decode cL_law 1206 = .ok (.aload_n 0, 1) := by decide +kernel
theorem dL_law_1207 : decode cL_law 1207 = .ok (.iload_n 3, 1) := by decide +kernel
theorem dL_law_1208 : decode cL_law 1208 = .ok (.iconst 4, 1) := by decide +kernel
theorem dL_law_1209 : decode cL_law 1209 = .ok (.iadd, 1) := by decide +kernel
theorem dL_law_1210 : decode cL_law 1210 = .ok (.iaload, 1) := by decide +kernel
theorem dL_law_1211 : decode cL_law 1211 = .ok (.aload_n 0, 1) := by decide +kernel
theorem dL_law_1212 : decode cL_law 1212 = .ok (.iload_n 3, 1) := by decide +kernel
theorem dL_law_1213 : decode cL_law 1213 = .ok (.iconst 5, 1) := by decide +kernel
theorem dL_law_1214 : decode cL_law 1214 = .ok (.iadd, 1) := by decide +kernel
theorem dL_law_1215 : decode cL_law 1215 = .ok (.iaload, 1) := by decide +kernel
theorem dL_law_1216 : decode cL_law 1216 = .ok (.invokevirtual 148, 3) := by decide +kernel
theorem dL_law_1219 : decode cL_law 1219 = .ok (.aload_n 2, 1) := by decide +kernel
theorem dL_law_1220 : decode cL_law 1220 = .ok (.aload_n 0, 1) := by decide +kernel
theorem dL_law_1221 : decode cL_law 1221 = .ok (.iload_n 3, 1) := by decide +kernel
theorem dL_law_1222 : decode cL_law 1222 = .ok (.iconst 1, 1) := by decide +kernel
theorem dL_law_1223 : decode cL_law 1223 = .ok (.iadd, 1) := by decide +kernel
theorem dL_law_1224 : decode cL_law 1224 = .ok (.iaload, 1) := by decide +kernel
theorem dL_law_1225 : decode cL_law 1225 = .ok (.aload_n 0, 1) := by decide +kernel
theorem dL_law_1226 : decode cL_law 1226 = .ok (.iload_n 3, 1) := by decide +kernel
theorem dL_law_1227 : decode cL_law 1227 = .ok (.iconst 2, 1) := by decide +kernel
theorem dL_law_1228 : decode cL_law 1228 = .ok (.iadd, 1) := by decide +kernel
theorem dL_law_1229 : decode cL_law 1229 = .ok (.iaload, 1) := by decide +kernel
theorem dL_law_1230 : decode cL_law 1230 = .ok (.aload_n 0, 1) := by decide +kernel
theorem dL_law_1231 : decode cL_law 1231 = .ok (.iload_n 3, 1) := by decide +kernel
theorem dL_law_1232 : decode cL_law 1232 = .ok (.iconst 3, 1) := by decide +kernel
theorem dL_law_1233 : decode cL_law 1233 = .ok (.iadd, 1) := by decide +kernel
theorem dL_law_1234 : decode cL_law 1234 = .ok (.iaload, 1) := by decide +kernel
theorem dL_law_1235 : decode cL_law 1235 = .ok (.aload_n 0, 1) := by decide +kernel
theorem dL_law_1236 : decode cL_law 1236 = .ok (.iload_n 3, 1) := by decide +kernel
theorem dL_law_1237 : decode cL_law 1237 = .ok (.iconst 4, 1) := by decide +kernel
theorem dL_law_1238 : decode cL_law 1238 = .ok (.iadd, 1) := by decide +kernel
theorem dL_law_1239 : decode cL_law 1239 = .ok (.iaload, 1) := by decide +kernel
theorem dL_law_1240 : decode cL_law 1240 = .ok (.aload_n 0, 1) := by decide +kernel
theorem dL_law_1241 : decode cL_law 1241 = .ok (.iload_n 3, 1) := by decide +kernel
theorem dL_law_1242 : decode cL_law 1242 = .ok (.iconst 5, 1) := by decide +kernel
theorem dL_law_1243 : decode cL_law 1243 = .ok (.iadd, 1) := by decide +kernel
theorem dL_law_1244 : decode cL_law 1244 = .ok (.iaload, 1) := by decide +kernel
theorem dL_law_1245 : decode cL_law 1245 = .ok (.invokevirtual 152, 3) := by decide +kernel
theorem dL_law_1248 : decode cL_law 1248 = .ok (.if_icmp .eq 65, 3) := by decide +kernel
theorem dL_law_1251 : decode cL_law 1251 = .ok (.iconst 0, 1) := by decide +kernel
theorem dL_law_1252 : decode cL_law 1252 = .ok (.ireturn, 1) := by decide +kernel
theorem dL_law_1253 : decode cL_law 1253 = .ok (.aload_n 1, 1) := by decide +kernel
theorem dL_law_1254 : decode cL_law 1254 = .ok (.aload_n 0, 1) := by decide +kernel
theorem dL_law_1255 : decode cL_law 1255 = .ok (.iload_n 3, 1) := by decide +kernel
theorem dL_law_1256 : decode cL_law 1256 = .ok (.iconst 1, 1) := by decide +kernel
theorem dL_law_1257 : decode cL_law 1257 = .ok (.iadd, 1) := by decide +kernel
theorem dL_law_1258 : decode cL_law 1258 = .ok (.iaload, 1) := by decide +kernel
theorem dL_law_1259 : decode cL_law 1259 = .ok (.invokevirtual 153, 3) := by decide +kernel
theorem dL_law_1262 : decode cL_law 1262 = .ok (.aload_n 2, 1) := by decide +kernel
theorem dL_law_1263 : decode cL_law 1263 = .ok (.aload_n 0, 1) := by decide +kernel
theorem dL_law_1264 : decode cL_law 1264 = .ok (.iload_n 3, 1) := by decide +kernel
theorem dL_law_1265 : decode cL_law 1265 = .ok (.iconst 1, 1) := by decide +kernel
theorem dL_law_1266 : decode cL_law 1266 = .ok (.iadd, 1) := by decide +kernel
theorem dL_law_1267 : decode cL_law 1267 = .ok (.iaload, 1) := by decide +kernel
theorem dL_law_1268 : decode cL_law 1268 = .ok (.invokevirtual 156, 3) := by decide +kernel
theorem dL_law_1271 : decode cL_law 1271 = .ok (.if_icmp .eq 42, 3) := by decide +kernel
theorem dL_law_1274 : decode cL_law 1274 = .ok (.iconst 0, 1) := by decide +kernel
theorem dL_law_1275 : decode cL_law 1275 = .ok (.ireturn, 1) := by decide +kernel
theorem dL_law_1276 : decode cL_law 1276 = .ok (.aload_n 1, 1) := by decide +kernel
theorem dL_law_1277 : decode cL_law 1277 = .ok (.aload_n 0, 1) := by decide +kernel
theorem dL_law_1278 : decode cL_law 1278 = .ok (.iload_n 3, 1) := by decide +kernel
theorem dL_law_1279 : decode cL_law 1279 = .ok (.iconst 1, 1) := by decide +kernel
theorem dL_law_1280 : decode cL_law 1280 = .ok (.iadd, 1) := by decide +kernel
theorem dL_law_1281 : decode cL_law 1281 = .ok (.iaload, 1) := by decide +kernel
theorem dL_law_1282 : decode cL_law 1282 = .ok (.invokevirtual 157, 3) := by decide +kernel
theorem dL_law_1285 : decode cL_law 1285 = .ok (.aload_n 2, 1) := by decide +kernel
theorem dL_law_1286 : decode cL_law 1286 = .ok (.aload_n 0, 1) := by decide +kernel
theorem dL_law_1287 : decode cL_law 1287 = .ok (.iload_n 3, 1) := by decide +kernel
theorem dL_law_1288 : decode cL_law 1288 = .ok (.iconst 1, 1) := by decide +kernel
theorem dL_law_1289 : decode cL_law 1289 = .ok (.iadd, 1) := by decide +kernel
theorem dL_law_1290 : decode cL_law 1290 = .ok (.iaload, 1) := by decide +kernel
theorem dL_law_1291 : decode cL_law 1291 = .ok (.invokevirtual 160, 3) := by decide +kernel
theorem dL_law_1294 : decode cL_law 1294 = .ok (.if_icmp .eq 19, 3) := by decide +kernel
theorem dL_law_1297 : decode cL_law 1297 = .ok (.iconst 0, 1) := by decide +kernel
theorem dL_law_1298 : decode cL_law 1298 = .ok (.ireturn, 1) := by decide +kernel
theorem dL_law_1299 : decode cL_law 1299 = .ok (.aload_n 1, 1) := by decide +kernel
theorem dL_law_1300 : decode cL_law 1300 = .ok (.invokevirtual 161, 3) := by decide +kernel
theorem dL_law_1303 : decode cL_law 1303 = .ok (.aload_n 2, 1) := by decide +kernel
theorem dL_law_1304 : decode cL_law 1304 = .ok (.invokevirtual 165, 3) := by decide +kernel
theorem dL_law_1307 : decode cL_law 1307 = .ok (.lcmp, 1) := by decide +kernel
theorem dL_law_1308 : decode cL_law 1308 = .ok (.ifCond .eq 5, 3) := by decide +kernel
theorem dL_law_1311 : decode cL_law 1311 = .ok (.iconst 0, 1) := by decide +kernel
theorem dL_law_1312 : decode cL_law 1312 = .ok (.ireturn, 1) := by decide +kernel
theorem dL_law_1313 : decode cL_law 1313 = .ok (.iinc 3 6, 3) := by decide +kernel
theorem dL_law_1316 : decode cL_law 1316 = .ok (.goto (-1298), 3) := by decide +kernel
theorem dL_law_1319 : decode cL_law 1319 = .ok (.iconst 1, 1) := by decide +kernel
theorem dL_law_1320 : decode cL_law 1320 = .ok (.ireturn, 1) := by decide +kernel
end
section
/-! the tables' good words, the nest words -/
def ax_big : List Cond := lw_tbl.filter goodWord
theorem ax_in {w : Cond} (i : Nat) (h : lw_tbl[i]? = some w) (g : goodWord w = true) : w ∈ ax_big := List.mem_filter.mpr ⟨List.mem_of_getElem? h, g⟩
theorem ax_good {z : MethodName} {cz : ByteArray} {nz : Nat} {rz : Option FieldType} (h : Cond.code z cz nz rz ∈ ax_big) : GoodIn ax_big (.code z cz nz rz :: ax_big) := by
  intro w hw
  have hm : w ∈ ax_big := (List.mem_cons.mp hw).elim (fun e => e ▸ h) id
  exact ⟨hm, good_of_word (List.mem_filter.mp hm).2⟩
def ax_isN : Cond → Bool
  | .methodLinkNest _ _ _ _ => true
  | _ => false
def ax_nw : List Cond := lw_tbl.filter ax_isN
theorem ax_inN {w : Cond} (i : Nat) (h : lw_tbl[i]? = some w) (g : ax_isN w = true) : w ∈ ax_nw := List.mem_filter.mpr ⟨List.mem_of_getElem? h, g⟩
/-! values, memory -/
def ax_i (z : Int) : Int32 := Int32.ofInt z
def ax_l (z : Int) : Int64 := Int64.ofInt z
abbrev ax_V : Type := Int ⊕ (Int ⊕ Nat)
def aI (z : Int) : ax_V := .inl z
def aL (z : Int) : ax_V := .inr (.inl z)
def aR (k : Nat) : ax_V := .inr (.inr k)
abbrev ax_M : Type := Nat → Int → Int
abbrev ax_G : Type := Launch × (Nat → Nat) × va_G × (ClassId × ClassId × ClassId × ClassId)
abbrev ax_G.l (g : ax_G) : Launch := g.1
abbrev ax_G.ad (g : ax_G) : Nat → Nat := g.2.1
abbrev ax_G.D (g : ax_G) : va_G := g.2.2.1
abbrev ax_G.cI (g : ax_G) : ClassId := g.2.2.2.1
abbrev ax_G.cZ (g : ax_G) : ClassId := g.2.2.2.2.1
abbrev ax_G.cJ (g : ax_G) : ClassId := g.2.2.2.2.2.1
abbrev ax_G.cR (g : ax_G) : ClassId := g.2.2.2.2.2.2
def cv (g : ax_G) : ax_V → Value
  | .inl z => .int (ax_i z)
  | .inr (.inl z) => .long (ax_l z)
  | .inr (.inr k) => .ref (g.ad k)
/-! the cells: 0 .. 9 the objects, then their arrays -/
def ax_shpL : List (Nat × Nat × List (Option Nat)) := [(4, 0, [some 10, some 11, some 12, some 13, some 14, none, none, none, none, none, none]), (4, 1, [some 15, some 16, some 17]), (4, 2, [some 0, some 5, some 1, some 18, some 19, some 20, some 21, some 22, some 23]), (4, 3, [none, some 24, some 25]), (4, 4, [some 26, none, none, some 2, some 27, some 28, some 29, none]), (4, 5, [none, none, none, some 30, some 31, some 32, none, none, none, none]), (4, 6, [some 33, some 38, some 39, none]), (4, 7, [none, some 40, some 41, some 42, some 43, none, none]), (4, 8, [some 4, some 2, some 0, some 5, some 1, some 7, some 3, some 6, some 44, none, none]), (4, 9, [some 45, some 46, none, some 47, some 48, some 49, some 50, some 51, none, some 52, some 53, some 54, some 55, some 56, some 57, some 58, some 59, some 60, some 61, some 62, some 63, some 64, none, none, none, none, none, some 65, some 66, some 67, none, some 68, some 69, some 70, some 71, some 72, some 73, some 74, none]), (0, 8, []), (0, 8, []), (0, 8, []), (0, 8, []), (0, 8, []), (0, 32, []), (0, 8, []), (0, 4, []), (0, 8, []), (1, 8, []), (1, 8, []), (0, 64, []), (0, 64, []), (0, 8, []), (0, 10, []), (0, 10, []), (0, 8, []), (2, 256, []), (2, 256, []), (2, 256, []), (0, 4, []), (1, 4, []), (1, 4, []), (3, 4, [some 34, some 35, some 36, some 37]), (0, 60, []), (0, 60, []), (0, 60, []), (0, 60, []), (0, 4, []), (0, 4, []), (0, 10, []), (0, 10, []), (0, 10, []), (0, 10, []), (0, 8, []), (0, 2, []), (0, 160, []), (0, 9, []), (0, 9, []), (0, 9, []), (0, 9, []), (0, 9, []), (0, 4, []), (0, 4, []), (0, 4, []), (0, 8, []), (0, 8, []), (0, 8, []), (0, 8, []), (0, 8, []), (0, 4, []), (0, 2048, []), (0, 256, []), (0, 256, []), (0, 8, []), (0, 10, []), (0, 10, []), (0, 10, []), (0, 10, []), (0, 10, []), (1, 4, []), (0, 4, []), (0, 4, []), (0, 240, []), (0, 60, [])]
def ax_NC : Nat := 75
theorem ax_shpL_len : ax_shpL.length = ax_NC := by decide +kernel

def ax_shp (k : Nat) : Nat × Nat × List (Option Nat) := (ax_shpL[k]?).getD (9, 0, [])
theorem ax_shp_lt {k t n : Nat} {x : List (Option Nat)} (h : ax_shp k = (t, n, x)) (ht : t < 9) : k < ax_NC := by
  rcases Nat.lt_or_ge k ax_NC with h1 | h1
  · exact h1
  · unfold ax_shp at h
    rw [List.getElem?_eq_none (by rw [ax_shpL_len]; exact h1)] at h
    have : (9, 0, ([] : List (Option Nat))) = (t, n, x) := h
    cases this
    exact absurd ht (by decide)
def ax_fld (g : ax_G) (M : ax_M) (k : Nat) (q : Option Nat × Nat) : Value := match q.1 with
  | none => .int (ax_i (M k q.2))
  | some k' => .ref (g.ad k')
def ax_cellS (g : ax_G) (M : ax_M) (k : Nat) : Nat × Nat × List (Option Nat) → va_E
  | (0, n, _) => .inl (g.cI, n, .inl fun j => ax_i (M k j))
  | (1, n, _) => .inl (g.cZ, n, .inl fun j => ax_i (M k j))
  | (2, n, _) => .inl (g.cJ, n, .inr (.inl fun j => ax_l (M k j)))
  | (3, n, fs) => .inl (g.cR, n, .inr (.inr (.inr (.inr fun j => ((fs[j]?).getD none).map g.ad))))
  | (_, n, fs) => .inr (n, fs.zipIdx.map (ax_fld g M k))
def ax_cell (g : ax_G) (M : ax_M) (k : Nat) : va_E := ax_cellS g M k (ax_shp k)
def wd (g : ax_G) (M : ax_M) : va_W := (List.range ax_NC).map fun k => (g.ad k, ax_cell g M k)
theorem wd_at {g : ax_G} {M : ax_M} {k : Nat} (h : k < ax_NC) : (wd g M)[k]? = some (g.ad k, ax_cell g M k) := by
  unfold wd
  rw [List.getElem?_map, List.getElem?_range h]
  rfl
theorem wd_inv {g : ax_G} {M : ax_M} {k : Nat} {q : Nat × va_E} (h : (wd g M)[k]? = some q) : k < ax_NC ∧ q = (g.ad k, ax_cell g M k) := by
  have hl : k < ax_NC := by
    have := (List.getElem?_eq_some_iff.mp h).1
    simpa [wd] using this
  rw [wd_at hl] at h
  exact ⟨hl, (Option.some.inj h).symm⟩
theorem wd_set {g : ax_G} {M M' : ax_M} {k : Nat} {e : va_E} (hM : ∀ j, j ≠ k → ax_cell g M' j = ax_cell g M j) (he : ax_cell g M' k = e) : (wd g M).set k (g.ad k, e) = wd g M' := by
  apply List.ext_getElem?
  intro j
  rcases Nat.lt_or_ge j ax_NC with hj | hj
  · by_cases hjk : j = k
    · subst hjk
      rw [List.getElem?_set_self (by simpa [wd] using hj), wd_at hj, he]
    · rw [List.getElem?_set_ne (Ne.symm hjk), wd_at hj, wd_at hj, hM j hjk]
  · rw [List.getElem?_eq_none (by simpa [wd] using hj), List.getElem?_eq_none (by simpa [wd] using hj)]
def ms (M : ax_M) (k : Nat) (i v : Int) : ax_M := fun k' i' => if k' = k ∧ i' = i then v else M k' i'
theorem ms_ne {M : ax_M} {k k' : Nat} {i v : Int} (h : k' ≠ k) : ms M k i v k' = M k' := by
  funext j
  simp [ms, h]
theorem ms_at (M : ax_M) (k : Nat) (i v : Int) : ms M k i v k i = v := by simp [ms]
theorem ms_off {M : ax_M} {k : Nat} {i j v : Int} (h : j ≠ i) : ms M k i v k j = M k j := by simp [ms, h]
/-! bounds of all that the cells hold -/
def bd : Nat → Int → Int × Int := fun k i => match k with
  | 0 => if i = 5 then (0, 80) else if i = 6 then (0, 8) else if i = 7 then ((-1), 80) else if i = 8 then (0, 8) else if i = 9 then (0, 4) else if i = 10 then ((-1), 80) else (0, 0)
  | 1 => (0, 0)
  | 2 => (0, 0)
  | 3 => if i = 0 then (0, 10) else (0, 0)
  | 4 => if i = 1 then (0, 72) else if i = 2 then (0, 1000) else if i = 7 then (0, 255) else (0, 0)
  | 5 => if i = 0 then (0, 40) else if i = 1 then (0, 40) else if i = 2 then ((-1), 40) else if i = 6 then (0, 40) else if i = 7 then (0, 3) else if i = 8 then (0, 4) else if i = 9 then ((-1), 40) else (0, 0)
  | 6 => if i = 3 then (0, 5) else (0, 0)
  | 7 => if i = 0 then (0, 10) else if i = 5 then (0, 1023) else if i = 6 then (0, 1) else (0, 0)
  | 8 => if i = 9 then (0, 1) else if i = 10 then (0, 1) else (0, 0)
  | 9 => if i = 2 then (0, 8) else if i = 8 then (0, 40) else if i = 22 then ((-1), 72) else if i = 23 then (0, 1000000) else if i = 24 then ((-1), 72) else if i = 25 then (0, 1000000) else if i = 26 then (0, 10) else if i = 30 then (0, 10) else if i = 38 then (0, 5) else (0, 0)
  | 10 => (0, 3)
  | 11 => (0, 5)
  | 12 => (0, 1)
  | 13 => (0, 9)
  | 14 => (0, 255)
  | 15 => (0, 99)
  | 16 => (0, 1)
  | 17 => (0, 999)
  | 18 => (0, 8)
  | 19 => (0, 1)
  | 20 => (0, 1)
  | 21 => ((-1), 255)
  | 22 => (0, 792)
  | 23 => (0, 7)
  | 24 => (0, 7)
  | 25 => (0, 7)
  | 26 => ((-1), 7)
  | 27 => (0, 1152921504606846976)
  | 28 => (0, 1152921504606846976)
  | 29 => (0, 1152921504606846976)
  | 30 => (0, 4)
  | 31 => (0, 1)
  | 32 => (0, 1)
  | 33 => (0, 0)
  | 34 => ((-2147483648), 2147483647)
  | 35 => ((-2147483648), 2147483647)
  | 36 => ((-2147483648), 2147483647)
  | 37 => ((-2147483648), 2147483647)
  | 38 => ((-1), 2)
  | 39 => (0, 60)
  | 40 => (0, 7)
  | 41 => (0, 5)
  | 42 => (0, 7)
  | 43 => (0, 1023)
  | 44 => ((-2147483648), 2147483647)
  | 45 => (0, 80)
  | 46 => (0, 255)
  | 47 => (0, 3)
  | 48 => (0, 5)
  | 49 => (0, 1)
  | 50 => (0, 9)
  | 51 => (0, 255)
  | 52 => (0, 4)
  | 53 => (0, 1)
  | 54 => (0, 1)
  | 55 => (0, 7)
  | 56 => (0, 8)
  | 57 => (0, 99)
  | 58 => (0, 16)
  | 59 => (0, 1)
  | 60 => (0, 999)
  | 61 => (0, 1000000)
  | 62 => (0, 1000000)
  | 63 => (0, 1000000)
  | 64 => ((-1), 8)
  | 65 => (0, 7)
  | 66 => (0, 5)
  | 67 => (0, 7)
  | 68 => (0, 7)
  | 69 => (0, 7)
  | 70 => (0, 1)
  | 71 => (0, 2)
  | 72 => (0, 60)
  | 73 => ((-2147483648), 2147483647)
  | 74 => ((-2147483648), 2147483647)
  | _ => (0, 0)

def RG (M : ax_M) : Prop := ∀ (k : Nat) (i : Int), (bd k i).1 ≤ M k i ∧ M k i ≤ (bd k i).2
theorem RG.at {M : ax_M} (h : RG M) {k : Nat} {i lo up : Int} (e : bd k i = (lo, up)) : lo ≤ M k i ∧ M k i ≤ up := by
  have := h k i
  rw [e] at this
  exact this
theorem RG.ms {M : ax_M} (h : RG M) {k : Nat} {i v lo up : Int} (e : bd k i = (lo, up)) (hv : lo ≤ v ∧ v ≤ up) : RG (ms M k i v) := by
  intro k' i'
  show _ ≤ (if _ then _ else _) ∧ (if _ then _ else _) ≤ _
  split
  · next q =>
    obtain ⟨rfl, rfl⟩ := q
    rw [e]
    exact hv
  · exact h k' i'
/-- an int (0), boolean (1), long (2) array: its length, its bounds -/
def ax_arr (t k N : Nat) (lo hi : Int) : Prop := (∃ x, ax_shp k = (t, N, x)) ∧ N ≤ 2147483647 ∧ ∀ i, bd k i = (lo, hi)
/-- object k of class ci has an int or boolean at field j -/
def ax_ob (k ci j : Nat) (z lo up : Int) : Prop := (∃ fs, ax_shp k = (4, ci, fs) ∧ fs[j]? = some none) ∧ bd k z = (lo, up) ∧ (j : Int) = z
def ax_fi (ci j : Nat) : Prop := ∀ (T : u_T) (C : String) (N : Nat), vwCl[ci]? = some (C, T, N) → (T j).2.2.2 = false ∧ parseFieldDescriptor (T j).2.2.1 = some .int
def ax_fz (ci j : Nat) : Prop := ∀ (T : u_T) (C : String) (N : Nat), vwCl[ci]? = some (C, T, N) → (T j).2.2.2 = false ∧ parseFieldDescriptor (T j).2.2.1 = some .boolean
def ax_or1 (k ci j k2 : Nat) : Prop := ∃ fs, ax_shp k = (4, ci, fs) ∧ fs[j]? = some (some k2)
theorem ax_cell_off {g : ax_G} {M M' : ax_M} {k : Nat} (h : M' k = M k) : ax_cell g M' k = ax_cell g M k := by
  unfold ax_cell
  have : ∀ s, ax_cellS g M' k s = ax_cellS g M k s := by
    intro s
    have hf : ax_fld g M' k = ax_fld g M k := by funext q; simp [ax_fld, h]
    unfold ax_cellS
    split <;> simp [h, hf]
  exact this _
/-- which cells may change -/
def ax_A (g : ax_G) : Nat → Prop := fun q => ∃ k, k < ax_NC ∧ q = g.ad k
def ax_D (g : ax_G) : Prop := ∀ i j, i < ax_NC → j < ax_NC → g.ad i = g.ad j → i = j
theorem ax_vaD {g : ax_G} {M : ax_M} (h : ax_D g) : va_D (ax_A g) (wd g M) := by
  refine ⟨fun i j p q hi hj hpq => ?_, fun k q hk => ?_⟩
  · obtain ⟨h1, rfl⟩ := wd_inv hi
    obtain ⟨h2, rfl⟩ := wd_inv hj
    exact h i j h1 h2 hpq
  · obtain ⟨h1, rfl⟩ := wd_inv hk
    exact ⟨k, h1, rfl⟩
/-! tables' facts of a state -/
def ax_tys (g : ax_G) : List (ClassId × FieldType) := [(g.cI, .int), (g.cZ, .boolean), (g.cJ, .long), (g.cR, .array .int)]
def ax_K (g : ax_G) (U : State) : Prop := va_K g.D vwCl (ax_tys g) U ∧ ∀ w ∈ ax_nw, va_Nw w U
theorem ax_K.warm {g : ax_G} {s U : State} (hW : s.WarmedH U.vm) (h : ax_K g s) : ax_K g U := by
  refine ⟨va_K.moved hW.alike h.1, fun w hw => ?_⟩
  have hz := h.2 w hw
  have hn := (List.mem_filter.mp hw).2
  cases w <;> first | exact va_Nw.warmM hW hz | cases hn
def ax_S1 (g : ax_G) (C n d : String) (k : Nat) (ty : FieldType) (N : Nat) (f : Nat → Value) (U : State) (H : Heap) : Prop := va_Z C n d (.ref (g.ad k)) (ax_A g) U H ∧ va_T ty (g.ad k) N f (ax_A g) U H
theorem ax_S1.to {g : ax_G} {C n d : String} {k : Nat} {ty : FieldType} {N : Nat} {f : Nat → Value} {s U : State} {H H1 : Heap} (hvm : s.vm.Alike U.vm) (hq : ∀ a : Nat, a < H.size → ¬ ax_A g a → H1[a]? = H[a]?) (h : ax_S1 g C n d k ty N f s H) : ax_S1 g C n d k ty N f U H1 := ⟨va_Z.moved hvm (h.1.kept hq), va_T.moved hvm (h.2.kept hq)⟩
def ax_tm : Nat → Int := fun j => match j with | 0 => 7 | 1 => 8 | 2 => 99 | _ => 16
def ax_sm : Nat → Int := fun j => match j with | 0 => 99 | 1 => 1 | 2 => 999 | _ => 10
def ax_wt : Nat → Int := fun j => match j with | 0 => 4782969 | 1 => 531441 | 2 => 59049 | 3 => 6561 | 4 => 729 | 5 => 81 | 6 => 9 | _ => 1
def ax_S (g : ax_G) (U : State) (H : Heap) : Prop :=
  ax_S1 g "SecondChances$Night" "TRAIT_MOST" "[I" 100 .int 4 (fun j => .int (ax_i (ax_tm j))) U H ∧
  ax_S1 g "SecondChances$Night" "SETTING_MOST" "[I" 101 .int 4 (fun j => .int (ax_i (ax_sm j))) U H ∧
  ax_S1 g "SecondChances$Planner" "WEIGHT" "[J" 102 .long 8 (fun j => .long (ax_l (ax_wt j))) U H
theorem ax_S.to {g : ax_G} {s U : State} {H H1 : Heap} (hvm : s.vm.Alike U.vm) (hq : ∀ a : Nat, a < H.size → ¬ ax_A g a → H1[a]? = H[a]?) (h : ax_S g s H) : ax_S g U H1 := ⟨h.1.to hvm hq, h.2.1.to hvm hq, h.2.2.to hvm hq⟩
/-! frames -/
def ax_lvL (g : ax_G) (lv : List (Option ax_V)) : List (Nat × Value) := lv.zipIdx.filterMap (fun q => q.1.map (fun v => (q.2, cv g v)))
theorem ax_lvL_mem {g : ax_G} {lv : List (Option ax_V)} {i : Nat} {w : Value} : (i, w) ∈ ax_lvL g lv ↔ ∃ v, lv[i]? = some (some v) ∧ w = cv g v := by
  unfold ax_lvL
  rw [List.mem_filterMap]
  constructor
  · rintro ⟨⟨a, j⟩, h1, h2⟩
    rw [List.mem_zipIdx_iff_getElem?] at h1
    cases a with
    | none => simp at h2
    | some v =>
      simp only [Option.map_some, Option.some.injEq, Prod.mk.injEq] at h2
      obtain ⟨rfl, rfl⟩ := h2
      exact ⟨v, h1, rfl⟩
  · rintro ⟨v, h1, rfl⟩
    exact ⟨(some v, i), List.mem_zipIdx_iff_getElem?.mpr h1, rfl⟩
def ax_notL : Option ax_V → Bool
  | some (.inr (.inl _)) => false
  | _ => true
theorem ax_notL_cat {g : ax_G} {v : ax_V} (h : ax_notL (some v) = true) : (cv g v).category = 1 := by
  rcases v with z | z | z
  · rfl
  · cases h
  · rfl
theorem ax_lv_get {g : ax_G} {ls : Array Slot} {nL : Nat} {lv : List (Option ax_V)} (h : lv_has ls nL (ax_lvL g lv)) (i : Nat) {v : ax_V} (hi : lv[i]? = some (some v)) : ls[i]? = some (.val (cv g v)) := h.2.2 (i, cv g v) (ax_lvL_mem.mpr ⟨v, hi, rfl⟩)
theorem ax_hx {lv : List (Option ax_V)} {i : Nat} {x : Option ax_V} (h : lv[i]? = some x) (hx : ax_notL x = true) : ∀ j, j + 1 = i + 1 → ∀ w, lv[j]? = some (some w) → ax_notL (some w) = true := by
  intro j hj w hw
  obtain rfl : j = i := by omega
  rw [h] at hw
  cases hw
  exact hx
theorem ax_h0 {lv : List (Option ax_V)} : ∀ j, j + 1 = 0 → ∀ w, lv[j]? = some (some w) → ax_notL (some w) = true := by
  intro j hj
  omega
theorem ax_lv_st1 {g : ax_G} {ls' : Array Slot} {nL i : Nat} {lv lv' : List (Option ax_V)} {v : ax_V} (h : lv_has ls' nL ((i, cv g v) :: (ax_lvL g lv).filter (fun q => !(q.1 == i) && !(q.1 + 1 == i && q.2.category == 2)))) (e : lv' = lv.set i (some v)) (hn : ∀ j, j + 1 = i → ∀ w, lv[j]? = some (some w) → ax_notL (some w) = true) : lv_has ls' nL (ax_lvL g lv') := by
  refine ⟨h.1, h.2.1, fun q hq => ?_⟩
  obtain ⟨j, w⟩ := q
  obtain ⟨v', h1, rfl⟩ := ax_lvL_mem.mp hq
  rw [e] at h1
  by_cases hj : j = i
  · subst hj
    have hl : j < lv.length := by
      have := (List.getElem?_eq_some_iff.mp h1).1
      simpa using this
    rw [List.getElem?_set_self hl] at h1
    cases h1
    exact h.2.2 _ List.mem_cons_self
  · rw [List.getElem?_set_ne (Ne.symm hj)] at h1
    refine h.2.2 _ (List.mem_cons_of_mem _ (List.mem_filter.mpr ⟨ax_lvL_mem.mpr ⟨v', h1, rfl⟩, ?_⟩))
    by_cases hj1 : j + 1 = i
    · have := ax_notL_cat (g := g) (hn j hj1 v' h1)
      simp [hj, this]
    · simp [hj, hj1]
theorem ax_lv_st2 {g : ax_G} {ls' : Array Slot} {nL i : Nat} {lv lv' : List (Option ax_V)} {v : ax_V} (h : lv_has ls' nL ((i, cv g v) :: (ax_lvL g lv).filter (fun q => !(q.1 == i) && (!(q.1 == i + 1) && !(q.1 + 1 == i && q.2.category == 2))))) (e : lv' = (lv.set i (some v)).set (i + 1) none) (hn : ∀ j, j + 1 = i → ∀ w, lv[j]? = some (some w) → ax_notL (some w) = true) : lv_has ls' nL (ax_lvL g lv') := by
  refine ⟨h.1, h.2.1, fun q hq => ?_⟩
  obtain ⟨j, w⟩ := q
  obtain ⟨v', h1, rfl⟩ := ax_lvL_mem.mp hq
  rw [e] at h1
  by_cases hj2 : j = i + 1
  · subst hj2
    have hl : i + 1 < lv.length := by
      have := (List.getElem?_eq_some_iff.mp h1).1
      simpa using this
    rw [List.getElem?_set_self (by simpa using hl)] at h1
    cases h1
  · rw [List.getElem?_set_ne (Ne.symm hj2)] at h1
    by_cases hj : j = i
    · subst hj
      have hl : j < lv.length := by
        have := (List.getElem?_eq_some_iff.mp h1).1
        simpa using this
      rw [List.getElem?_set_self hl] at h1
      cases h1
      exact h.2.2 _ List.mem_cons_self
    · rw [List.getElem?_set_ne (Ne.symm hj)] at h1
      refine h.2.2 _ (List.mem_cons_of_mem _ (List.mem_filter.mpr ⟨ax_lvL_mem.mpr ⟨v', h1, rfl⟩, ?_⟩))
      by_cases hj1 : j + 1 = i
      · have := ax_notL_cat (g := g) (hn j hj1 v' h1)
        simp [hj, hj2, this]
      · simp [hj, hj1, hj2]
/-! a body's fixed things -/
abbrev ax_X : Type := ax_G × Program × Env × Room × State × MethodId × Array Value × List Frame × Method × Code × Nat × Nat × Nat × (State → Prop)
abbrev ax_X.g (X : ax_X) : ax_G := X.1
abbrev ax_X.p (X : ax_X) : Program := X.2.1
abbrev ax_X.e (X : ax_X) : Env := X.2.2.1
abbrev ax_X.R (X : ax_X) : Room := X.2.2.2.1
abbrev ax_X.s (X : ax_X) : State := X.2.2.2.2.1
abbrev ax_X.m (X : ax_X) : MethodId := X.2.2.2.2.2.1
abbrev ax_X.args (X : ax_X) : Array Value := X.2.2.2.2.2.2.1
abbrev ax_X.below (X : ax_X) : List Frame := X.2.2.2.2.2.2.2.1
abbrev ax_X.meth (X : ax_X) : Method := X.2.2.2.2.2.2.2.2.1
abbrev ax_X.c (X : ax_X) : Code := X.2.2.2.2.2.2.2.2.2.1
abbrev ax_X.nL (X : ax_X) : Nat := X.2.2.2.2.2.2.2.2.2.2.1
abbrev ax_X.cells (X : ax_X) : Nat := X.2.2.2.2.2.2.2.2.2.2.2.1
abbrev ax_X.slots (X : ax_X) : Nat := X.2.2.2.2.2.2.2.2.2.2.2.2.1
abbrev ax_X.Q (X : ax_X) : State → Prop := X.2.2.2.2.2.2.2.2.2.2.2.2.2
abbrev ax_W (X : ax_X) (H : Heap) (locs : List Loc) (g : JFrame) : Prop := W X.p X.g.l X.e X.R X.s X.m X.args X.below X.meth X.c H locs X.cells X.slots X.Q g
def AW (X : ax_X) (pc : Nat) (lv : List (Option ax_V)) (st : List ax_V) (M : ax_M) : Prop :=
  RG M → ∀ (H : Heap) (locs : List Loc) (ls : Array Slot), va_P X.g.D vwCl (wd X.g M) H → va_S (ax_A X.g) X.s.heap H locs → lv_has ls X.nL (ax_lvL X.g lv) → lv.length = X.nL → ax_W X H locs (F0 X.m pc ls (st.map (cv X.g)))
def ax_b (X : ax_X) (cc : ByteArray) (own : String) (n : Nat) : Prop :=
  X.p.tables.exec = Jvm.exec ∧ X.c.code = cc ∧ X.c.maxLocals = X.nL ∧ X.s.vm.findClass own = some X.m.cls ∧ (∀ w ∈ ax_big, w.before X.args X.s = true) ∧ ax_K X.g X.s ∧ ax_S X.g X.s X.s.heap ∧ ax_D X.g ∧ X.meth.locks = false ∧ (n ≤ X.R.frames ∧ 30 * n ≤ X.R.locals) ∧ (X.cells ≤ X.R.cells ∧ X.slots ≤ X.R.slots)
def ax_PQ (g : ax_G) (P : Option ax_V → ax_M → Prop) : Array Value → State → Outcome → State → Prop := fun _ st oc t =>
  (∃ (r : Option ax_V) (M' : ax_M), oc = .returned (r.map (cv g)) ∧ (P r M' ∧ RG M') ∧ va_P g.D vwCl (wd g M') t.heap) ∧ va_F (ax_A g) st t
def ax_r (X : ax_X) (ret : Option FieldType) (P : Option ax_V → ax_M → Prop) : Prop := X.meth.sig.returnType = ret ∧ X.Q = MQ X.below (ax_PQ X.g P) X.args X.s X.cells X.slots (ax_A X.g)
abbrev ax_Md : Type := MethodName × ByteArray × Nat × Option FieldType
def ax_rm (d : Nat) : Room := { frames := d, cells := 0, slots := 0, locals := 30 * d }
def ax_Pre (g : ax_G) (M : ax_M) (U : State) : Prop := va_P g.D vwCl (wd g M) U.heap ∧ ax_K g U ∧ ax_S g U U.heap ∧ ax_D g ∧ RG M
/-- a method's contract over the abstract machine -/
def CT (g : ax_G) (md : ax_Md) (d : Nat) (As : List ax_V) (M : ax_M) (P : Option ax_V → ax_M → Prop) : Prop :=
  Met g.l md.1 (.code md.1 md.2.1 md.2.2.1 md.2.2.2 :: ax_big) (ax_rm d) (va_Pc (As.map (cv g)) (ax_Pre g M)) (ax_PQ g P) 0 0 (ax_A g)
def ax_args : List ax_V → List (Option ax_V)
  | [] => []
  | .inr (.inl z) :: r => some (.inr (.inl z)) :: none :: ax_args r
  | v :: r => some v :: ax_args r
theorem ax_args_lv (g : ax_G) : ∀ (As : List ax_V) (i : Nat) (j : Nat) (v : ax_V), (ax_args As)[j]? = some (some v) → (i + j, cv g v) ∈ lv_args i (As.map (cv g))
  | [], i, j, v, h => by simp [ax_args] at h
  | .inr (.inl z) :: r, i, j, v, h => by
    show _ ∈ (i, cv g _) :: lv_args (i + 2) (r.map (cv g))
    cases j with
    | zero =>
      have : some (some (Sum.inr (Sum.inl z) : ax_V)) = some (some v) := h
      cases this
      exact List.mem_cons_self
    | succ j =>
      cases j with
      | zero =>
        have : some (none : Option ax_V) = some (some v) := h
        cases this
      | succ j =>
        have := ax_args_lv g r (i + 2) j v h
        rw [show i + (j + 1 + 1) = i + 2 + j by omega]
        exact List.mem_cons_of_mem _ this
  | .inl z :: r, i, j, v, h => by
    show _ ∈ (i, cv g _) :: lv_args (i + 1) (r.map (cv g))
    cases j with
    | zero =>
      have : some (some (Sum.inl z : ax_V)) = some (some v) := h
      cases this
      exact List.mem_cons_self
    | succ j =>
      have := ax_args_lv g r (i + 1) j v h
      rw [show i + (j + 1) = i + 1 + j by omega]
      exact List.mem_cons_of_mem _ this
  | .inr (.inr z) :: r, i, j, v, h => by
    show _ ∈ (i, cv g _) :: lv_args (i + 1) (r.map (cv g))
    cases j with
    | zero =>
      have : some (some (Sum.inr (Sum.inr z) : ax_V)) = some (some v) := h
      cases this
      exact List.mem_cons_self
    | succ j =>
      have := ax_args_lv g r (i + 1) j v h
      rw [show i + (j + 1) = i + 1 + j by omega]
      exact List.mem_cons_of_mem _ this
theorem ax_args_len (g : ax_G) : ∀ As : List ax_V, (lg_sl (As.map (cv g))).length = (ax_args As).length
  | [] => rfl
  | .inr (.inl z) :: r => by
    have := ax_args_len g r
    simp only [List.map_cons, lg_sl, List.flatMap_cons, List.length_append] at this ⊢
    rw [this]
    simp [ax_args, cv, Value.category]
    omega
  | .inl z :: r => by
    have := ax_args_len g r
    simp only [List.map_cons, lg_sl, List.flatMap_cons, List.length_append] at this ⊢
    rw [this]
    simp [ax_args, cv, Value.category]
    omega
  | .inr (.inr z) :: r => by
    have := ax_args_len g r
    simp only [List.map_cons, lg_sl, List.flatMap_cons, List.length_append] at this ⊢
    rw [this]
    simp [ax_args, cv, Value.category]
    omega
/-- a contract out of its body's walk -/
theorem ct_intro {g : ax_G} {y : MethodName} {cc : ByteArray} {nL : Nat} {ret : Option FieldType} {d : Nat} {As : List ax_V} {M : ax_M} {P : Option ax_V → ax_M → Prop} (k : Nat) (hk : (ax_args As).length + k = nL) (hy : plainName y.cls = true)
    (body : ∀ X : ax_X, X.g = g → ax_b X cc y.cls d → ax_r X ret P → AW X 0 (ax_args As ++ List.replicate k none) [] M) : CT g (y, cc, nL, ret) d As M P := by
  refine Met.ofW (cc := cc) (maxL := nL) (ret := ret) hy rfl ?_
  intro p e s m args below meth c s₁ B hml hv
  obtain ⟨rfl, hP, hK, hS, hD, hG⟩ := hv
  have hts := atoms_spec (ws := Cond.code y cc nL ret :: ax_big) B.pre
  have hl := lv_entry (As.map (cv g)) (n := nL) (by rw [ax_args_len]; omega)
  rw [lg_entry_eq]
  generalize (lg_sl (As.map (cv g)) ++ List.replicate (nL - (lg_sl (As.map (cv g))).length) Slot.unset).toArray = ls at hl ⊢
  refine body (g, p, e, ax_rm d, s, m, (As.map (cv g)).toArray, below, meth, c, nL, 0, 0, MQ below (ax_PQ g P) (As.map (cv g)).toArray s 0 0 (ax_A g)) rfl ⟨B.exec, B.bytes, hml, findClass_of_methodNamed B.named, fun w hw => hts w (List.mem_cons_of_mem _ hw), hK, hS, hD, B.notSynchronized, ⟨Nat.le_refl _, Nat.le_refl _⟩, ⟨Nat.le_refl _, Nat.le_refl _⟩⟩ ⟨B.returns, rfl⟩ hG s.heap [] ls hP va_S.rf ⟨hl.1, hl.2.1, ?_⟩ (by simp; omega)
  intro q hq
  obtain ⟨j, w⟩ := q
  obtain ⟨v, h1, rfl⟩ := ax_lvL_mem.mp hq
  have h2 : (ax_args As)[j]? = some (some v) := by
    rcases Nat.lt_or_ge j (ax_args As).length with h | h
    · rwa [List.getElem?_append_left h] at h1
    · rw [List.getElem?_append_right h] at h1
      have := List.mem_of_getElem? h1
      rw [List.mem_replicate] at this
      cases this.2
  have := ax_args_lv g As 0 j v h2
  rw [Nat.zero_add] at this
  exact hl.2.2 _ this
theorem CT.mono {g : ax_G} {md : ax_Md} {d : Nat} {As : List ax_V} {M : ax_M} {P P' : Option ax_V → ax_M → Prop} (h : CT g md d As M P) (hp : ∀ r M', P r M' → P' r M') : CT g md d As M P' := by
  intro p e ha hc hk s m args below hf happ hpre htr
  obtain ⟨k, o, h1, h2, h3, ⟨⟨⟨r, M', e1, ⟨e2, e5⟩, e3⟩, e4⟩, hL⟩⟩ := h p e ha hc hk s m args below hf happ hpre htr
  exact ⟨k, o, h1, h2, h3, ⟨⟨r, M', e1, ⟨hp r M' e2, e5⟩, e3⟩, e4⟩, hL⟩
section AXR
variable {X : ax_X} {cc : ByteArray} {own : String} {n pc : Nat} {lv : List (Option ax_V)} {rest st : List ax_V} {M : ax_M}
theorem ax_i_of {z : Int} (h : -2147483648 ≤ z ∧ z ≤ 2147483647) : (ax_i z).toInt = z := Int32.toInt_ofInt_of_le (by omega) (by omega)
theorem ax_l_of {z : Int} (h : -9223372036854775808 ≤ z ∧ z ≤ 9223372036854775807) : (ax_l z).toInt = z := Int64.toInt_ofInt_of_le (by omega) (by omega)
theorem ax_i_eq {a b : Int} (h : -2147483648 ≤ a ∧ a ≤ 2147483647 ∧ -2147483648 ≤ b ∧ b ≤ 2147483647) : ax_i a = ax_i b ↔ a = b := by
  constructor
  · intro e
    have := congrArg Int32.toInt e
    rwa [ax_i_of ⟨h.1, h.2.1⟩, ax_i_of h.2.2] at this
  · rintro rfl; rfl
theorem ax_i_lt {a b : Int} (h : -2147483648 ≤ a ∧ a ≤ 2147483647 ∧ -2147483648 ≤ b ∧ b ≤ 2147483647) : ax_i a < ax_i b ↔ a < b := by
  rw [Int32.lt_iff_toInt_lt, ax_i_of ⟨h.1, h.2.1⟩, ax_i_of h.2.2]
theorem ax_i_le {a b : Int} (h : -2147483648 ≤ a ∧ a ≤ 2147483647 ∧ -2147483648 ≤ b ∧ b ≤ 2147483647) : ax_i a ≤ ax_i b ↔ a ≤ b := by
  rw [Int32.le_iff_toInt_le, ax_i_of ⟨h.1, h.2.1⟩, ax_i_of h.2.2]
theorem ax_i_0 : ax_i 0 = 0 := rfl
theorem ax_nat {i : Int} {n : Nat} (h0 : 0 ≤ i) (h1 : i < n) (hn : n ≤ 2147483647) : vp_in (ax_i i) n ∧ (ax_i i).toNatClampNeg = i.toNat ∧ ((ax_i i).toNatClampNeg : Int) = i := by
  have e := ax_i_of (z := i) (by omega)
  have e2 : (ax_i i).toNatClampNeg = i.toNat := by rw [← Int32.toNat_toInt, e]
  exact ⟨vp_in_iff.mpr ⟨by omega, by omega⟩, e2, by omega⟩
theorem rr_iconst {z : Int} (B : ax_b X cc own n) (hd : decode cc pc = .ok (.iconst z, 1)) (k : AW X (pc + 1) lv (aI z :: rest) M) : AW X pc lv rest M := fun hG H locs ls hP hS hl hn => lv_iconst B.1 B.2.1 hd rfl (k hG H locs ls hP hS hl hn)
theorem rr_bipush {z : Int} (B : ax_b X cc own n) (hd : decode cc pc = .ok (.bipush z, 2)) (hz : (Int8.ofInt z).toInt32 = ax_i z) (k : AW X (pc + 2) lv (aI z :: rest) M) : AW X pc lv rest M := fun hG H locs ls hP hS hl hn => lv_bipush B.1 B.2.1 hd hz (k hG H locs ls hP hS hl hn)
theorem rr_sipush {z : Int} (B : ax_b X cc own n) (hd : decode cc pc = .ok (.sipush z, 3)) (hz : (Int16.ofInt z).toInt32 = ax_i z) (k : AW X (pc + 3) lv (aI z :: rest) M) : AW X pc lv rest M := fun hG H locs ls hP hS hl hn => lv_sipush B.1 B.2.1 hd hz (k hG H locs ls hP hS hl hn)
theorem rr_lconst0 (B : ax_b X cc own n) (hd : decode cc pc = .ok (.lconst 0, 1)) (k : AW X (pc + 1) lv (aL 0 :: rest) M) : AW X pc lv rest M := fun hG H locs ls hP hS hl hn => lv_lconst B.1 B.2.1 hd rfl (k hG H locs ls hP hS hl hn)
theorem rr_lconst1 (B : ax_b X cc own n) (hd : decode cc pc = .ok (.lconst 1, 1)) (k : AW X (pc + 1) lv (aL 1 :: rest) M) : AW X pc lv rest M := fun hG H locs ls hP hS hl hn => lv_lconst B.1 B.2.1 hd rfl (k hG H locs ls hP hS hl hn)
theorem rr_ldc {idx : Nat} {z : Int} {v : Int32} (B : ax_b X cc own n) (hd : decode cc pc = .ok (.ldc idx, 2)) (hw : Cond.constant own idx v ∈ ax_big) (hz : v = ax_i z) (k : AW X (pc + 2) lv (aI z :: rest) M) : AW X pc lv rest M := fun hG H locs ls hP hS hl hn => lv_ldc B.1 B.2.1 B.2.2.2.1 (hz ▸ B.2.2.2.2.1 _ hw) hd (k hG H locs ls hP hS hl hn)
theorem rr_ldc2 {idx : Nat} {z : Int} {v : Int64} (B : ax_b X cc own n) (hd : decode cc pc = .ok (.ldc2_w idx, 3)) (hw : Cond.constantLong own idx v ∈ ax_big) (hz : v = ax_l z) (k : AW X (pc + 3) lv (aL z :: rest) M) : AW X pc lv rest M := fun hG H locs ls hP hS hl hn => lv_ldc2 B.1 B.2.1 B.2.2.2.1 (hz ▸ B.2.2.2.2.1 _ hw) hd (k hG H locs ls hP hS hl hn)
theorem rr_iload0 {a : Int} {r : List (Option ax_V)} (B : ax_b X cc own n) (hd : decode cc pc = .ok (.iload_n 0, 1)) (k : AW X (pc + 1) (some (aI a) :: r) (aI a :: rest) M) : AW X pc (some (aI a) :: r) rest M := fun hG H locs ls hP hS hl hn => lv_iload_n B.1 B.2.1 hd rfl (ax_lv_get hl 0 rfl) (k hG H locs ls hP hS hl hn)
theorem rr_lload0 {a : Int} {r : List (Option ax_V)} (B : ax_b X cc own n) (hd : decode cc pc = .ok (.lload_n 0, 1)) (k : AW X (pc + 1) (some (aL a) :: r) (aL a :: rest) M) : AW X pc (some (aL a) :: r) rest M := fun hG H locs ls hP hS hl hn => lv_lload_n B.1 B.2.1 hd rfl (ax_lv_get hl 0 rfl) (k hG H locs ls hP hS hl hn)
theorem rr_aload0 {a : Nat} {r : List (Option ax_V)} (B : ax_b X cc own n) (hd : decode cc pc = .ok (.aload_n 0, 1)) (k : AW X (pc + 1) (some (aR a) :: r) (aR a :: rest) M) : AW X pc (some (aR a) :: r) rest M := fun hG H locs ls hP hS hl hn => lv_aload_n B.1 B.2.1 hd rfl (ax_lv_get hl 0 rfl) (k hG H locs ls hP hS hl hn)
theorem rr_istore0 {a : Int} {old : Option ax_V} {r : List (Option ax_V)} (B : ax_b X cc own n) (hd : decode cc pc = .ok (.istore_n 0, 1)) (k : AW X (pc + 1) (some (aI a) :: r) rest M) : AW X pc (old :: r) (aI a :: rest) M := fun hG H locs ls hP hS hl hn => lv_istore_n B.1 B.2.1 hd rfl hl (by rw [← hn]; simp only [List.length_cons]; show 0 < _; omega) rfl (fun ls1 h1 => k hG H locs ls1 hP hS (ax_lv_st1 (v := aI a) h1 rfl ax_h0) (by rw [← hn]; rfl))
theorem rr_astore0 {a : Nat} {old : Option ax_V} {r : List (Option ax_V)} (B : ax_b X cc own n) (hd : decode cc pc = .ok (.astore_n 0, 1)) (k : AW X (pc + 1) (some (aR a) :: r) rest M) : AW X pc (old :: r) (aR a :: rest) M := fun hG H locs ls hP hS hl hn => lv_astore_n B.1 B.2.1 hd rfl hl (by rw [← hn]; simp only [List.length_cons]; show 0 < _; omega) rfl (fun ls1 h1 => k hG H locs ls1 hP hS (ax_lv_st1 (v := aR a) h1 rfl ax_h0) (by rw [← hn]; rfl))
theorem rr_lstore0 {a : Int} {old old2 : Option ax_V} {r : List (Option ax_V)} (B : ax_b X cc own n) (hd : decode cc pc = .ok (.lstore_n 0, 1)) (k : AW X (pc + 1) (some (aL a) :: none :: r) rest M) : AW X pc (old :: old2 :: r) (aL a :: rest) M := fun hG H locs ls hP hS hl hn => lv_lstore_n B.1 B.2.1 hd rfl hl (by rw [← hn]; simp only [List.length_cons]; show 0 + 1 < _; omega) rfl (fun ls1 h1 => k hG H locs ls1 hP hS (ax_lv_st2 (v := aL a) h1 rfl ax_h0) (by rw [← hn]; rfl))
theorem rr_iinc0 {a z : Int} {r : List (Option ax_V)} (B : ax_b X cc own n) (hd : decode cc pc = .ok (.iinc 0 z, 3)) (k : AW X (pc + 3) (some (aI (a + z)) :: r) rest M) : AW X pc (some (aI a) :: r) rest M := by
  intro hG H locs ls hP hS hl hn
  obtain ⟨kk, hkk⟩ := List.getElem?_of_mem (ax_lvL_mem.mpr ⟨aI a, (rfl : (some (aI a) :: r)[0]? = some (some (aI a))), (rfl : cv X.g (aI a) = cv X.g (aI a))⟩)
  exact lv_iinc B.1 B.2.1 hd hl hkk (Int32.ofInt_add a z).symm (by rw [← hn]; simp) rfl (fun ls1 h1 => k hG H locs ls1 hP hS (ax_lv_st1 (v := aI (a + z)) h1 rfl ax_h0) (by rw [← hn]; rfl))
theorem rr_iload1 {a : Int} {x0 : Option ax_V} {r : List (Option ax_V)} (B : ax_b X cc own n) (hd : decode cc pc = .ok (.iload_n 1, 1)) (k : AW X (pc + 1) (x0 :: some (aI a) :: r) (aI a :: rest) M) : AW X pc (x0 :: some (aI a) :: r) rest M := fun hG H locs ls hP hS hl hn => lv_iload_n B.1 B.2.1 hd rfl (ax_lv_get hl 1 rfl) (k hG H locs ls hP hS hl hn)
theorem rr_lload1 {a : Int} {x0 : Option ax_V} {r : List (Option ax_V)} (B : ax_b X cc own n) (hd : decode cc pc = .ok (.lload_n 1, 1)) (k : AW X (pc + 1) (x0 :: some (aL a) :: r) (aL a :: rest) M) : AW X pc (x0 :: some (aL a) :: r) rest M := fun hG H locs ls hP hS hl hn => lv_lload_n B.1 B.2.1 hd rfl (ax_lv_get hl 1 rfl) (k hG H locs ls hP hS hl hn)
theorem rr_aload1 {a : Nat} {x0 : Option ax_V} {r : List (Option ax_V)} (B : ax_b X cc own n) (hd : decode cc pc = .ok (.aload_n 1, 1)) (k : AW X (pc + 1) (x0 :: some (aR a) :: r) (aR a :: rest) M) : AW X pc (x0 :: some (aR a) :: r) rest M := fun hG H locs ls hP hS hl hn => lv_aload_n B.1 B.2.1 hd rfl (ax_lv_get hl 1 rfl) (k hG H locs ls hP hS hl hn)
theorem rr_istore1 {a : Int} {old : Option ax_V} {x0 : Option ax_V} {r : List (Option ax_V)} (B : ax_b X cc own n) (hd : decode cc pc = .ok (.istore_n 1, 1)) (hx : ax_notL x0 = true) (k : AW X (pc + 1) (x0 :: some (aI a) :: r) rest M) : AW X pc (x0 :: old :: r) (aI a :: rest) M := fun hG H locs ls hP hS hl hn => lv_istore_n B.1 B.2.1 hd rfl hl (by rw [← hn]; simp only [List.length_cons]; show 1 < _; omega) rfl (fun ls1 h1 => k hG H locs ls1 hP hS (ax_lv_st1 (v := aI a) h1 rfl (ax_hx (i := 0) rfl hx)) (by rw [← hn]; rfl))
theorem rr_astore1 {a : Nat} {old : Option ax_V} {x0 : Option ax_V} {r : List (Option ax_V)} (B : ax_b X cc own n) (hd : decode cc pc = .ok (.astore_n 1, 1)) (hx : ax_notL x0 = true) (k : AW X (pc + 1) (x0 :: some (aR a) :: r) rest M) : AW X pc (x0 :: old :: r) (aR a :: rest) M := fun hG H locs ls hP hS hl hn => lv_astore_n B.1 B.2.1 hd rfl hl (by rw [← hn]; simp only [List.length_cons]; show 1 < _; omega) rfl (fun ls1 h1 => k hG H locs ls1 hP hS (ax_lv_st1 (v := aR a) h1 rfl (ax_hx (i := 0) rfl hx)) (by rw [← hn]; rfl))
theorem rr_lstore1 {a : Int} {old old2 : Option ax_V} {x0 : Option ax_V} {r : List (Option ax_V)} (B : ax_b X cc own n) (hd : decode cc pc = .ok (.lstore_n 1, 1)) (hx : ax_notL x0 = true) (k : AW X (pc + 1) (x0 :: some (aL a) :: none :: r) rest M) : AW X pc (x0 :: old :: old2 :: r) (aL a :: rest) M := fun hG H locs ls hP hS hl hn => lv_lstore_n B.1 B.2.1 hd rfl hl (by rw [← hn]; simp only [List.length_cons]; show 1 + 1 < _; omega) rfl (fun ls1 h1 => k hG H locs ls1 hP hS (ax_lv_st2 (v := aL a) h1 rfl (ax_hx (i := 0) rfl hx)) (by rw [← hn]; rfl))
theorem rr_iinc1 {a z : Int} {x0 : Option ax_V} {r : List (Option ax_V)} (B : ax_b X cc own n) (hd : decode cc pc = .ok (.iinc 1 z, 3)) (hx : ax_notL x0 = true) (k : AW X (pc + 3) (x0 :: some (aI (a + z)) :: r) rest M) : AW X pc (x0 :: some (aI a) :: r) rest M := by
  intro hG H locs ls hP hS hl hn
  obtain ⟨kk, hkk⟩ := List.getElem?_of_mem (ax_lvL_mem.mpr ⟨aI a, (rfl : (x0 :: some (aI a) :: r)[1]? = some (some (aI a))), (rfl : cv X.g (aI a) = cv X.g (aI a))⟩)
  exact lv_iinc B.1 B.2.1 hd hl hkk (Int32.ofInt_add a z).symm (by rw [← hn]; simp) rfl (fun ls1 h1 => k hG H locs ls1 hP hS (ax_lv_st1 (v := aI (a + z)) h1 rfl (ax_hx (i := 0) rfl hx)) (by rw [← hn]; rfl))
theorem rr_iload2 {a : Int} {x0 x1 : Option ax_V} {r : List (Option ax_V)} (B : ax_b X cc own n) (hd : decode cc pc = .ok (.iload_n 2, 1)) (k : AW X (pc + 1) (x0 :: x1 :: some (aI a) :: r) (aI a :: rest) M) : AW X pc (x0 :: x1 :: some (aI a) :: r) rest M := fun hG H locs ls hP hS hl hn => lv_iload_n B.1 B.2.1 hd rfl (ax_lv_get hl 2 rfl) (k hG H locs ls hP hS hl hn)
theorem rr_lload2 {a : Int} {x0 x1 : Option ax_V} {r : List (Option ax_V)} (B : ax_b X cc own n) (hd : decode cc pc = .ok (.lload_n 2, 1)) (k : AW X (pc + 1) (x0 :: x1 :: some (aL a) :: r) (aL a :: rest) M) : AW X pc (x0 :: x1 :: some (aL a) :: r) rest M := fun hG H locs ls hP hS hl hn => lv_lload_n B.1 B.2.1 hd rfl (ax_lv_get hl 2 rfl) (k hG H locs ls hP hS hl hn)
theorem rr_aload2 {a : Nat} {x0 x1 : Option ax_V} {r : List (Option ax_V)} (B : ax_b X cc own n) (hd : decode cc pc = .ok (.aload_n 2, 1)) (k : AW X (pc + 1) (x0 :: x1 :: some (aR a) :: r) (aR a :: rest) M) : AW X pc (x0 :: x1 :: some (aR a) :: r) rest M := fun hG H locs ls hP hS hl hn => lv_aload_n B.1 B.2.1 hd rfl (ax_lv_get hl 2 rfl) (k hG H locs ls hP hS hl hn)
theorem rr_istore2 {a : Int} {old : Option ax_V} {x0 x1 : Option ax_V} {r : List (Option ax_V)} (B : ax_b X cc own n) (hd : decode cc pc = .ok (.istore_n 2, 1)) (hx : ax_notL x1 = true) (k : AW X (pc + 1) (x0 :: x1 :: some (aI a) :: r) rest M) : AW X pc (x0 :: x1 :: old :: r) (aI a :: rest) M := fun hG H locs ls hP hS hl hn => lv_istore_n B.1 B.2.1 hd rfl hl (by rw [← hn]; simp only [List.length_cons]; show 2 < _; omega) rfl (fun ls1 h1 => k hG H locs ls1 hP hS (ax_lv_st1 (v := aI a) h1 rfl (ax_hx (i := 1) rfl hx)) (by rw [← hn]; rfl))
theorem rr_astore2 {a : Nat} {old : Option ax_V} {x0 x1 : Option ax_V} {r : List (Option ax_V)} (B : ax_b X cc own n) (hd : decode cc pc = .ok (.astore_n 2, 1)) (hx : ax_notL x1 = true) (k : AW X (pc + 1) (x0 :: x1 :: some (aR a) :: r) rest M) : AW X pc (x0 :: x1 :: old :: r) (aR a :: rest) M := fun hG H locs ls hP hS hl hn => lv_astore_n B.1 B.2.1 hd rfl hl (by rw [← hn]; simp only [List.length_cons]; show 2 < _; omega) rfl (fun ls1 h1 => k hG H locs ls1 hP hS (ax_lv_st1 (v := aR a) h1 rfl (ax_hx (i := 1) rfl hx)) (by rw [← hn]; rfl))
theorem rr_lstore2 {a : Int} {old old2 : Option ax_V} {x0 x1 : Option ax_V} {r : List (Option ax_V)} (B : ax_b X cc own n) (hd : decode cc pc = .ok (.lstore_n 2, 1)) (hx : ax_notL x1 = true) (k : AW X (pc + 1) (x0 :: x1 :: some (aL a) :: none :: r) rest M) : AW X pc (x0 :: x1 :: old :: old2 :: r) (aL a :: rest) M := fun hG H locs ls hP hS hl hn => lv_lstore_n B.1 B.2.1 hd rfl hl (by rw [← hn]; simp only [List.length_cons]; show 2 + 1 < _; omega) rfl (fun ls1 h1 => k hG H locs ls1 hP hS (ax_lv_st2 (v := aL a) h1 rfl (ax_hx (i := 1) rfl hx)) (by rw [← hn]; rfl))
theorem rr_iinc2 {a z : Int} {x0 x1 : Option ax_V} {r : List (Option ax_V)} (B : ax_b X cc own n) (hd : decode cc pc = .ok (.iinc 2 z, 3)) (hx : ax_notL x1 = true) (k : AW X (pc + 3) (x0 :: x1 :: some (aI (a + z)) :: r) rest M) : AW X pc (x0 :: x1 :: some (aI a) :: r) rest M := by
  intro hG H locs ls hP hS hl hn
  obtain ⟨kk, hkk⟩ := List.getElem?_of_mem (ax_lvL_mem.mpr ⟨aI a, (rfl : (x0 :: x1 :: some (aI a) :: r)[2]? = some (some (aI a))), (rfl : cv X.g (aI a) = cv X.g (aI a))⟩)
  exact lv_iinc B.1 B.2.1 hd hl hkk (Int32.ofInt_add a z).symm (by rw [← hn]; simp) rfl (fun ls1 h1 => k hG H locs ls1 hP hS (ax_lv_st1 (v := aI (a + z)) h1 rfl (ax_hx (i := 1) rfl hx)) (by rw [← hn]; rfl))
theorem rr_iload3 {a : Int} {x0 x1 x2 : Option ax_V} {r : List (Option ax_V)} (B : ax_b X cc own n) (hd : decode cc pc = .ok (.iload_n 3, 1)) (k : AW X (pc + 1) (x0 :: x1 :: x2 :: some (aI a) :: r) (aI a :: rest) M) : AW X pc (x0 :: x1 :: x2 :: some (aI a) :: r) rest M := fun hG H locs ls hP hS hl hn => lv_iload_n B.1 B.2.1 hd rfl (ax_lv_get hl 3 rfl) (k hG H locs ls hP hS hl hn)
theorem rr_lload3 {a : Int} {x0 x1 x2 : Option ax_V} {r : List (Option ax_V)} (B : ax_b X cc own n) (hd : decode cc pc = .ok (.lload_n 3, 1)) (k : AW X (pc + 1) (x0 :: x1 :: x2 :: some (aL a) :: r) (aL a :: rest) M) : AW X pc (x0 :: x1 :: x2 :: some (aL a) :: r) rest M := fun hG H locs ls hP hS hl hn => lv_lload_n B.1 B.2.1 hd rfl (ax_lv_get hl 3 rfl) (k hG H locs ls hP hS hl hn)
theorem rr_aload3 {a : Nat} {x0 x1 x2 : Option ax_V} {r : List (Option ax_V)} (B : ax_b X cc own n) (hd : decode cc pc = .ok (.aload_n 3, 1)) (k : AW X (pc + 1) (x0 :: x1 :: x2 :: some (aR a) :: r) (aR a :: rest) M) : AW X pc (x0 :: x1 :: x2 :: some (aR a) :: r) rest M := fun hG H locs ls hP hS hl hn => lv_aload_n B.1 B.2.1 hd rfl (ax_lv_get hl 3 rfl) (k hG H locs ls hP hS hl hn)
theorem rr_istore3 {a : Int} {old : Option ax_V} {x0 x1 x2 : Option ax_V} {r : List (Option ax_V)} (B : ax_b X cc own n) (hd : decode cc pc = .ok (.istore_n 3, 1)) (hx : ax_notL x2 = true) (k : AW X (pc + 1) (x0 :: x1 :: x2 :: some (aI a) :: r) rest M) : AW X pc (x0 :: x1 :: x2 :: old :: r) (aI a :: rest) M := fun hG H locs ls hP hS hl hn => lv_istore_n B.1 B.2.1 hd rfl hl (by rw [← hn]; simp only [List.length_cons]; show 3 < _; omega) rfl (fun ls1 h1 => k hG H locs ls1 hP hS (ax_lv_st1 (v := aI a) h1 rfl (ax_hx (i := 2) rfl hx)) (by rw [← hn]; rfl))
theorem rr_astore3 {a : Nat} {old : Option ax_V} {x0 x1 x2 : Option ax_V} {r : List (Option ax_V)} (B : ax_b X cc own n) (hd : decode cc pc = .ok (.astore_n 3, 1)) (hx : ax_notL x2 = true) (k : AW X (pc + 1) (x0 :: x1 :: x2 :: some (aR a) :: r) rest M) : AW X pc (x0 :: x1 :: x2 :: old :: r) (aR a :: rest) M := fun hG H locs ls hP hS hl hn => lv_astore_n B.1 B.2.1 hd rfl hl (by rw [← hn]; simp only [List.length_cons]; show 3 < _; omega) rfl (fun ls1 h1 => k hG H locs ls1 hP hS (ax_lv_st1 (v := aR a) h1 rfl (ax_hx (i := 2) rfl hx)) (by rw [← hn]; rfl))
theorem rr_lstore3 {a : Int} {old old2 : Option ax_V} {x0 x1 x2 : Option ax_V} {r : List (Option ax_V)} (B : ax_b X cc own n) (hd : decode cc pc = .ok (.lstore_n 3, 1)) (hx : ax_notL x2 = true) (k : AW X (pc + 1) (x0 :: x1 :: x2 :: some (aL a) :: none :: r) rest M) : AW X pc (x0 :: x1 :: x2 :: old :: old2 :: r) (aL a :: rest) M := fun hG H locs ls hP hS hl hn => lv_lstore_n B.1 B.2.1 hd rfl hl (by rw [← hn]; simp only [List.length_cons]; show 3 + 1 < _; omega) rfl (fun ls1 h1 => k hG H locs ls1 hP hS (ax_lv_st2 (v := aL a) h1 rfl (ax_hx (i := 2) rfl hx)) (by rw [← hn]; rfl))
theorem rr_iinc3 {a z : Int} {x0 x1 x2 : Option ax_V} {r : List (Option ax_V)} (B : ax_b X cc own n) (hd : decode cc pc = .ok (.iinc 3 z, 3)) (hx : ax_notL x2 = true) (k : AW X (pc + 3) (x0 :: x1 :: x2 :: some (aI (a + z)) :: r) rest M) : AW X pc (x0 :: x1 :: x2 :: some (aI a) :: r) rest M := by
  intro hG H locs ls hP hS hl hn
  obtain ⟨kk, hkk⟩ := List.getElem?_of_mem (ax_lvL_mem.mpr ⟨aI a, (rfl : (x0 :: x1 :: x2 :: some (aI a) :: r)[3]? = some (some (aI a))), (rfl : cv X.g (aI a) = cv X.g (aI a))⟩)
  exact lv_iinc B.1 B.2.1 hd hl hkk (Int32.ofInt_add a z).symm (by rw [← hn]; simp) rfl (fun ls1 h1 => k hG H locs ls1 hP hS (ax_lv_st1 (v := aI (a + z)) h1 rfl (ax_hx (i := 2) rfl hx)) (by rw [← hn]; rfl))
theorem rr_iload4 {a : Int} {x0 x1 x2 x3 : Option ax_V} {r : List (Option ax_V)} (B : ax_b X cc own n) (hd : decode cc pc = .ok (.iload 4, 2)) (k : AW X (pc + 2) (x0 :: x1 :: x2 :: x3 :: some (aI a) :: r) (aI a :: rest) M) : AW X pc (x0 :: x1 :: x2 :: x3 :: some (aI a) :: r) rest M := fun hG H locs ls hP hS hl hn => lv_iload B.1 B.2.1 hd (ax_lv_get hl 4 rfl) (k hG H locs ls hP hS hl hn)
theorem rr_lload4 {a : Int} {x0 x1 x2 x3 : Option ax_V} {r : List (Option ax_V)} (B : ax_b X cc own n) (hd : decode cc pc = .ok (.lload 4, 2)) (k : AW X (pc + 2) (x0 :: x1 :: x2 :: x3 :: some (aL a) :: r) (aL a :: rest) M) : AW X pc (x0 :: x1 :: x2 :: x3 :: some (aL a) :: r) rest M := fun hG H locs ls hP hS hl hn => lv_lload B.1 B.2.1 hd (ax_lv_get hl 4 rfl) (k hG H locs ls hP hS hl hn)
theorem rr_istore4 {a : Int} {old : Option ax_V} {x0 x1 x2 x3 : Option ax_V} {r : List (Option ax_V)} (B : ax_b X cc own n) (hd : decode cc pc = .ok (.istore 4, 2)) (hx : ax_notL x3 = true) (k : AW X (pc + 2) (x0 :: x1 :: x2 :: x3 :: some (aI a) :: r) rest M) : AW X pc (x0 :: x1 :: x2 :: x3 :: old :: r) (aI a :: rest) M := fun hG H locs ls hP hS hl hn => lv_istore B.1 B.2.1 hd hl (by rw [← hn]; simp only [List.length_cons]; show 4 < _; omega) rfl (fun ls1 h1 => k hG H locs ls1 hP hS (ax_lv_st1 (v := aI a) h1 rfl (ax_hx (i := 3) rfl hx)) (by rw [← hn]; rfl))
theorem rr_lstore4 {a : Int} {old old2 : Option ax_V} {x0 x1 x2 x3 : Option ax_V} {r : List (Option ax_V)} (B : ax_b X cc own n) (hd : decode cc pc = .ok (.lstore 4, 2)) (hx : ax_notL x3 = true) (k : AW X (pc + 2) (x0 :: x1 :: x2 :: x3 :: some (aL a) :: none :: r) rest M) : AW X pc (x0 :: x1 :: x2 :: x3 :: old :: old2 :: r) (aL a :: rest) M := fun hG H locs ls hP hS hl hn => lv_lstore B.1 B.2.1 hd hl (by rw [← hn]; simp only [List.length_cons]; show 4 + 1 < _; omega) rfl (fun ls1 h1 => k hG H locs ls1 hP hS (ax_lv_st2 (v := aL a) h1 rfl (ax_hx (i := 3) rfl hx)) (by rw [← hn]; rfl))
theorem rr_iinc4 {a z : Int} {x0 x1 x2 x3 : Option ax_V} {r : List (Option ax_V)} (B : ax_b X cc own n) (hd : decode cc pc = .ok (.iinc 4 z, 3)) (hx : ax_notL x3 = true) (k : AW X (pc + 3) (x0 :: x1 :: x2 :: x3 :: some (aI (a + z)) :: r) rest M) : AW X pc (x0 :: x1 :: x2 :: x3 :: some (aI a) :: r) rest M := by
  intro hG H locs ls hP hS hl hn
  obtain ⟨kk, hkk⟩ := List.getElem?_of_mem (ax_lvL_mem.mpr ⟨aI a, (rfl : (x0 :: x1 :: x2 :: x3 :: some (aI a) :: r)[4]? = some (some (aI a))), (rfl : cv X.g (aI a) = cv X.g (aI a))⟩)
  exact lv_iinc B.1 B.2.1 hd hl hkk (Int32.ofInt_add a z).symm (by rw [← hn]; simp) rfl (fun ls1 h1 => k hG H locs ls1 hP hS (ax_lv_st1 (v := aI (a + z)) h1 rfl (ax_hx (i := 3) rfl hx)) (by rw [← hn]; rfl))
theorem rr_iload5 {a : Int} {x0 x1 x2 x3 x4 : Option ax_V} {r : List (Option ax_V)} (B : ax_b X cc own n) (hd : decode cc pc = .ok (.iload 5, 2)) (k : AW X (pc + 2) (x0 :: x1 :: x2 :: x3 :: x4 :: some (aI a) :: r) (aI a :: rest) M) : AW X pc (x0 :: x1 :: x2 :: x3 :: x4 :: some (aI a) :: r) rest M := fun hG H locs ls hP hS hl hn => lv_iload B.1 B.2.1 hd (ax_lv_get hl 5 rfl) (k hG H locs ls hP hS hl hn)
theorem rr_lload5 {a : Int} {x0 x1 x2 x3 x4 : Option ax_V} {r : List (Option ax_V)} (B : ax_b X cc own n) (hd : decode cc pc = .ok (.lload 5, 2)) (k : AW X (pc + 2) (x0 :: x1 :: x2 :: x3 :: x4 :: some (aL a) :: r) (aL a :: rest) M) : AW X pc (x0 :: x1 :: x2 :: x3 :: x4 :: some (aL a) :: r) rest M := fun hG H locs ls hP hS hl hn => lv_lload B.1 B.2.1 hd (ax_lv_get hl 5 rfl) (k hG H locs ls hP hS hl hn)
theorem rr_istore5 {a : Int} {old : Option ax_V} {x0 x1 x2 x3 x4 : Option ax_V} {r : List (Option ax_V)} (B : ax_b X cc own n) (hd : decode cc pc = .ok (.istore 5, 2)) (hx : ax_notL x4 = true) (k : AW X (pc + 2) (x0 :: x1 :: x2 :: x3 :: x4 :: some (aI a) :: r) rest M) : AW X pc (x0 :: x1 :: x2 :: x3 :: x4 :: old :: r) (aI a :: rest) M := fun hG H locs ls hP hS hl hn => lv_istore B.1 B.2.1 hd hl (by rw [← hn]; simp only [List.length_cons]; show 5 < _; omega) rfl (fun ls1 h1 => k hG H locs ls1 hP hS (ax_lv_st1 (v := aI a) h1 rfl (ax_hx (i := 4) rfl hx)) (by rw [← hn]; rfl))
theorem rr_lstore5 {a : Int} {old old2 : Option ax_V} {x0 x1 x2 x3 x4 : Option ax_V} {r : List (Option ax_V)} (B : ax_b X cc own n) (hd : decode cc pc = .ok (.lstore 5, 2)) (hx : ax_notL x4 = true) (k : AW X (pc + 2) (x0 :: x1 :: x2 :: x3 :: x4 :: some (aL a) :: none :: r) rest M) : AW X pc (x0 :: x1 :: x2 :: x3 :: x4 :: old :: old2 :: r) (aL a :: rest) M := fun hG H locs ls hP hS hl hn => lv_lstore B.1 B.2.1 hd hl (by rw [← hn]; simp only [List.length_cons]; show 5 + 1 < _; omega) rfl (fun ls1 h1 => k hG H locs ls1 hP hS (ax_lv_st2 (v := aL a) h1 rfl (ax_hx (i := 4) rfl hx)) (by rw [← hn]; rfl))
theorem rr_iinc5 {a z : Int} {x0 x1 x2 x3 x4 : Option ax_V} {r : List (Option ax_V)} (B : ax_b X cc own n) (hd : decode cc pc = .ok (.iinc 5 z, 3)) (hx : ax_notL x4 = true) (k : AW X (pc + 3) (x0 :: x1 :: x2 :: x3 :: x4 :: some (aI (a + z)) :: r) rest M) : AW X pc (x0 :: x1 :: x2 :: x3 :: x4 :: some (aI a) :: r) rest M := by
  intro hG H locs ls hP hS hl hn
  obtain ⟨kk, hkk⟩ := List.getElem?_of_mem (ax_lvL_mem.mpr ⟨aI a, (rfl : (x0 :: x1 :: x2 :: x3 :: x4 :: some (aI a) :: r)[5]? = some (some (aI a))), (rfl : cv X.g (aI a) = cv X.g (aI a))⟩)
  exact lv_iinc B.1 B.2.1 hd hl hkk (Int32.ofInt_add a z).symm (by rw [← hn]; simp) rfl (fun ls1 h1 => k hG H locs ls1 hP hS (ax_lv_st1 (v := aI (a + z)) h1 rfl (ax_hx (i := 4) rfl hx)) (by rw [← hn]; rfl))
theorem rr_iload6 {a : Int} {x0 x1 x2 x3 x4 x5 : Option ax_V} {r : List (Option ax_V)} (B : ax_b X cc own n) (hd : decode cc pc = .ok (.iload 6, 2)) (k : AW X (pc + 2) (x0 :: x1 :: x2 :: x3 :: x4 :: x5 :: some (aI a) :: r) (aI a :: rest) M) : AW X pc (x0 :: x1 :: x2 :: x3 :: x4 :: x5 :: some (aI a) :: r) rest M := fun hG H locs ls hP hS hl hn => lv_iload B.1 B.2.1 hd (ax_lv_get hl 6 rfl) (k hG H locs ls hP hS hl hn)
theorem rr_lload6 {a : Int} {x0 x1 x2 x3 x4 x5 : Option ax_V} {r : List (Option ax_V)} (B : ax_b X cc own n) (hd : decode cc pc = .ok (.lload 6, 2)) (k : AW X (pc + 2) (x0 :: x1 :: x2 :: x3 :: x4 :: x5 :: some (aL a) :: r) (aL a :: rest) M) : AW X pc (x0 :: x1 :: x2 :: x3 :: x4 :: x5 :: some (aL a) :: r) rest M := fun hG H locs ls hP hS hl hn => lv_lload B.1 B.2.1 hd (ax_lv_get hl 6 rfl) (k hG H locs ls hP hS hl hn)
theorem rr_istore6 {a : Int} {old : Option ax_V} {x0 x1 x2 x3 x4 x5 : Option ax_V} {r : List (Option ax_V)} (B : ax_b X cc own n) (hd : decode cc pc = .ok (.istore 6, 2)) (hx : ax_notL x5 = true) (k : AW X (pc + 2) (x0 :: x1 :: x2 :: x3 :: x4 :: x5 :: some (aI a) :: r) rest M) : AW X pc (x0 :: x1 :: x2 :: x3 :: x4 :: x5 :: old :: r) (aI a :: rest) M := fun hG H locs ls hP hS hl hn => lv_istore B.1 B.2.1 hd hl (by rw [← hn]; simp only [List.length_cons]; show 6 < _; omega) rfl (fun ls1 h1 => k hG H locs ls1 hP hS (ax_lv_st1 (v := aI a) h1 rfl (ax_hx (i := 5) rfl hx)) (by rw [← hn]; rfl))
theorem rr_lstore6 {a : Int} {old old2 : Option ax_V} {x0 x1 x2 x3 x4 x5 : Option ax_V} {r : List (Option ax_V)} (B : ax_b X cc own n) (hd : decode cc pc = .ok (.lstore 6, 2)) (hx : ax_notL x5 = true) (k : AW X (pc + 2) (x0 :: x1 :: x2 :: x3 :: x4 :: x5 :: some (aL a) :: none :: r) rest M) : AW X pc (x0 :: x1 :: x2 :: x3 :: x4 :: x5 :: old :: old2 :: r) (aL a :: rest) M := fun hG H locs ls hP hS hl hn => lv_lstore B.1 B.2.1 hd hl (by rw [← hn]; simp only [List.length_cons]; show 6 + 1 < _; omega) rfl (fun ls1 h1 => k hG H locs ls1 hP hS (ax_lv_st2 (v := aL a) h1 rfl (ax_hx (i := 5) rfl hx)) (by rw [← hn]; rfl))
theorem rr_iinc6 {a z : Int} {x0 x1 x2 x3 x4 x5 : Option ax_V} {r : List (Option ax_V)} (B : ax_b X cc own n) (hd : decode cc pc = .ok (.iinc 6 z, 3)) (hx : ax_notL x5 = true) (k : AW X (pc + 3) (x0 :: x1 :: x2 :: x3 :: x4 :: x5 :: some (aI (a + z)) :: r) rest M) : AW X pc (x0 :: x1 :: x2 :: x3 :: x4 :: x5 :: some (aI a) :: r) rest M := by
  intro hG H locs ls hP hS hl hn
  obtain ⟨kk, hkk⟩ := List.getElem?_of_mem (ax_lvL_mem.mpr ⟨aI a, (rfl : (x0 :: x1 :: x2 :: x3 :: x4 :: x5 :: some (aI a) :: r)[6]? = some (some (aI a))), (rfl : cv X.g (aI a) = cv X.g (aI a))⟩)
  exact lv_iinc B.1 B.2.1 hd hl hkk (Int32.ofInt_add a z).symm (by rw [← hn]; simp) rfl (fun ls1 h1 => k hG H locs ls1 hP hS (ax_lv_st1 (v := aI (a + z)) h1 rfl (ax_hx (i := 5) rfl hx)) (by rw [← hn]; rfl))
theorem rr_iload7 {a : Int} {x0 x1 x2 x3 x4 x5 x6 : Option ax_V} {r : List (Option ax_V)} (B : ax_b X cc own n) (hd : decode cc pc = .ok (.iload 7, 2)) (k : AW X (pc + 2) (x0 :: x1 :: x2 :: x3 :: x4 :: x5 :: x6 :: some (aI a) :: r) (aI a :: rest) M) : AW X pc (x0 :: x1 :: x2 :: x3 :: x4 :: x5 :: x6 :: some (aI a) :: r) rest M := fun hG H locs ls hP hS hl hn => lv_iload B.1 B.2.1 hd (ax_lv_get hl 7 rfl) (k hG H locs ls hP hS hl hn)
theorem rr_lload7 {a : Int} {x0 x1 x2 x3 x4 x5 x6 : Option ax_V} {r : List (Option ax_V)} (B : ax_b X cc own n) (hd : decode cc pc = .ok (.lload 7, 2)) (k : AW X (pc + 2) (x0 :: x1 :: x2 :: x3 :: x4 :: x5 :: x6 :: some (aL a) :: r) (aL a :: rest) M) : AW X pc (x0 :: x1 :: x2 :: x3 :: x4 :: x5 :: x6 :: some (aL a) :: r) rest M := fun hG H locs ls hP hS hl hn => lv_lload B.1 B.2.1 hd (ax_lv_get hl 7 rfl) (k hG H locs ls hP hS hl hn)
theorem rr_istore7 {a : Int} {old : Option ax_V} {x0 x1 x2 x3 x4 x5 x6 : Option ax_V} {r : List (Option ax_V)} (B : ax_b X cc own n) (hd : decode cc pc = .ok (.istore 7, 2)) (hx : ax_notL x6 = true) (k : AW X (pc + 2) (x0 :: x1 :: x2 :: x3 :: x4 :: x5 :: x6 :: some (aI a) :: r) rest M) : AW X pc (x0 :: x1 :: x2 :: x3 :: x4 :: x5 :: x6 :: old :: r) (aI a :: rest) M := fun hG H locs ls hP hS hl hn => lv_istore B.1 B.2.1 hd hl (by rw [← hn]; simp only [List.length_cons]; show 7 < _; omega) rfl (fun ls1 h1 => k hG H locs ls1 hP hS (ax_lv_st1 (v := aI a) h1 rfl (ax_hx (i := 6) rfl hx)) (by rw [← hn]; rfl))
theorem rr_lstore7 {a : Int} {old old2 : Option ax_V} {x0 x1 x2 x3 x4 x5 x6 : Option ax_V} {r : List (Option ax_V)} (B : ax_b X cc own n) (hd : decode cc pc = .ok (.lstore 7, 2)) (hx : ax_notL x6 = true) (k : AW X (pc + 2) (x0 :: x1 :: x2 :: x3 :: x4 :: x5 :: x6 :: some (aL a) :: none :: r) rest M) : AW X pc (x0 :: x1 :: x2 :: x3 :: x4 :: x5 :: x6 :: old :: old2 :: r) (aL a :: rest) M := fun hG H locs ls hP hS hl hn => lv_lstore B.1 B.2.1 hd hl (by rw [← hn]; simp only [List.length_cons]; show 7 + 1 < _; omega) rfl (fun ls1 h1 => k hG H locs ls1 hP hS (ax_lv_st2 (v := aL a) h1 rfl (ax_hx (i := 6) rfl hx)) (by rw [← hn]; rfl))
theorem rr_iinc7 {a z : Int} {x0 x1 x2 x3 x4 x5 x6 : Option ax_V} {r : List (Option ax_V)} (B : ax_b X cc own n) (hd : decode cc pc = .ok (.iinc 7 z, 3)) (hx : ax_notL x6 = true) (k : AW X (pc + 3) (x0 :: x1 :: x2 :: x3 :: x4 :: x5 :: x6 :: some (aI (a + z)) :: r) rest M) : AW X pc (x0 :: x1 :: x2 :: x3 :: x4 :: x5 :: x6 :: some (aI a) :: r) rest M := by
  intro hG H locs ls hP hS hl hn
  obtain ⟨kk, hkk⟩ := List.getElem?_of_mem (ax_lvL_mem.mpr ⟨aI a, (rfl : (x0 :: x1 :: x2 :: x3 :: x4 :: x5 :: x6 :: some (aI a) :: r)[7]? = some (some (aI a))), (rfl : cv X.g (aI a) = cv X.g (aI a))⟩)
  exact lv_iinc B.1 B.2.1 hd hl hkk (Int32.ofInt_add a z).symm (by rw [← hn]; simp) rfl (fun ls1 h1 => k hG H locs ls1 hP hS (ax_lv_st1 (v := aI (a + z)) h1 rfl (ax_hx (i := 6) rfl hx)) (by rw [← hn]; rfl))
theorem rr_iload8 {a : Int} {x0 x1 x2 x3 x4 x5 x6 x7 : Option ax_V} {r : List (Option ax_V)} (B : ax_b X cc own n) (hd : decode cc pc = .ok (.iload 8, 2)) (k : AW X (pc + 2) (x0 :: x1 :: x2 :: x3 :: x4 :: x5 :: x6 :: x7 :: some (aI a) :: r) (aI a :: rest) M) : AW X pc (x0 :: x1 :: x2 :: x3 :: x4 :: x5 :: x6 :: x7 :: some (aI a) :: r) rest M := fun hG H locs ls hP hS hl hn => lv_iload B.1 B.2.1 hd (ax_lv_get hl 8 rfl) (k hG H locs ls hP hS hl hn)
theorem rr_lload8 {a : Int} {x0 x1 x2 x3 x4 x5 x6 x7 : Option ax_V} {r : List (Option ax_V)} (B : ax_b X cc own n) (hd : decode cc pc = .ok (.lload 8, 2)) (k : AW X (pc + 2) (x0 :: x1 :: x2 :: x3 :: x4 :: x5 :: x6 :: x7 :: some (aL a) :: r) (aL a :: rest) M) : AW X pc (x0 :: x1 :: x2 :: x3 :: x4 :: x5 :: x6 :: x7 :: some (aL a) :: r) rest M := fun hG H locs ls hP hS hl hn => lv_lload B.1 B.2.1 hd (ax_lv_get hl 8 rfl) (k hG H locs ls hP hS hl hn)
theorem rr_istore8 {a : Int} {old : Option ax_V} {x0 x1 x2 x3 x4 x5 x6 x7 : Option ax_V} {r : List (Option ax_V)} (B : ax_b X cc own n) (hd : decode cc pc = .ok (.istore 8, 2)) (hx : ax_notL x7 = true) (k : AW X (pc + 2) (x0 :: x1 :: x2 :: x3 :: x4 :: x5 :: x6 :: x7 :: some (aI a) :: r) rest M) : AW X pc (x0 :: x1 :: x2 :: x3 :: x4 :: x5 :: x6 :: x7 :: old :: r) (aI a :: rest) M := fun hG H locs ls hP hS hl hn => lv_istore B.1 B.2.1 hd hl (by rw [← hn]; simp only [List.length_cons]; show 8 < _; omega) rfl (fun ls1 h1 => k hG H locs ls1 hP hS (ax_lv_st1 (v := aI a) h1 rfl (ax_hx (i := 7) rfl hx)) (by rw [← hn]; rfl))
theorem rr_lstore8 {a : Int} {old old2 : Option ax_V} {x0 x1 x2 x3 x4 x5 x6 x7 : Option ax_V} {r : List (Option ax_V)} (B : ax_b X cc own n) (hd : decode cc pc = .ok (.lstore 8, 2)) (hx : ax_notL x7 = true) (k : AW X (pc + 2) (x0 :: x1 :: x2 :: x3 :: x4 :: x5 :: x6 :: x7 :: some (aL a) :: none :: r) rest M) : AW X pc (x0 :: x1 :: x2 :: x3 :: x4 :: x5 :: x6 :: x7 :: old :: old2 :: r) (aL a :: rest) M := fun hG H locs ls hP hS hl hn => lv_lstore B.1 B.2.1 hd hl (by rw [← hn]; simp only [List.length_cons]; show 8 + 1 < _; omega) rfl (fun ls1 h1 => k hG H locs ls1 hP hS (ax_lv_st2 (v := aL a) h1 rfl (ax_hx (i := 7) rfl hx)) (by rw [← hn]; rfl))
theorem rr_iinc8 {a z : Int} {x0 x1 x2 x3 x4 x5 x6 x7 : Option ax_V} {r : List (Option ax_V)} (B : ax_b X cc own n) (hd : decode cc pc = .ok (.iinc 8 z, 3)) (hx : ax_notL x7 = true) (k : AW X (pc + 3) (x0 :: x1 :: x2 :: x3 :: x4 :: x5 :: x6 :: x7 :: some (aI (a + z)) :: r) rest M) : AW X pc (x0 :: x1 :: x2 :: x3 :: x4 :: x5 :: x6 :: x7 :: some (aI a) :: r) rest M := by
  intro hG H locs ls hP hS hl hn
  obtain ⟨kk, hkk⟩ := List.getElem?_of_mem (ax_lvL_mem.mpr ⟨aI a, (rfl : (x0 :: x1 :: x2 :: x3 :: x4 :: x5 :: x6 :: x7 :: some (aI a) :: r)[8]? = some (some (aI a))), (rfl : cv X.g (aI a) = cv X.g (aI a))⟩)
  exact lv_iinc B.1 B.2.1 hd hl hkk (Int32.ofInt_add a z).symm (by rw [← hn]; simp) rfl (fun ls1 h1 => k hG H locs ls1 hP hS (ax_lv_st1 (v := aI (a + z)) h1 rfl (ax_hx (i := 7) rfl hx)) (by rw [← hn]; rfl))
theorem rr_iload9 {a : Int} {x0 x1 x2 x3 x4 x5 x6 x7 x8 : Option ax_V} {r : List (Option ax_V)} (B : ax_b X cc own n) (hd : decode cc pc = .ok (.iload 9, 2)) (k : AW X (pc + 2) (x0 :: x1 :: x2 :: x3 :: x4 :: x5 :: x6 :: x7 :: x8 :: some (aI a) :: r) (aI a :: rest) M) : AW X pc (x0 :: x1 :: x2 :: x3 :: x4 :: x5 :: x6 :: x7 :: x8 :: some (aI a) :: r) rest M := fun hG H locs ls hP hS hl hn => lv_iload B.1 B.2.1 hd (ax_lv_get hl 9 rfl) (k hG H locs ls hP hS hl hn)
theorem rr_lload9 {a : Int} {x0 x1 x2 x3 x4 x5 x6 x7 x8 : Option ax_V} {r : List (Option ax_V)} (B : ax_b X cc own n) (hd : decode cc pc = .ok (.lload 9, 2)) (k : AW X (pc + 2) (x0 :: x1 :: x2 :: x3 :: x4 :: x5 :: x6 :: x7 :: x8 :: some (aL a) :: r) (aL a :: rest) M) : AW X pc (x0 :: x1 :: x2 :: x3 :: x4 :: x5 :: x6 :: x7 :: x8 :: some (aL a) :: r) rest M := fun hG H locs ls hP hS hl hn => lv_lload B.1 B.2.1 hd (ax_lv_get hl 9 rfl) (k hG H locs ls hP hS hl hn)
theorem rr_istore9 {a : Int} {old : Option ax_V} {x0 x1 x2 x3 x4 x5 x6 x7 x8 : Option ax_V} {r : List (Option ax_V)} (B : ax_b X cc own n) (hd : decode cc pc = .ok (.istore 9, 2)) (hx : ax_notL x8 = true) (k : AW X (pc + 2) (x0 :: x1 :: x2 :: x3 :: x4 :: x5 :: x6 :: x7 :: x8 :: some (aI a) :: r) rest M) : AW X pc (x0 :: x1 :: x2 :: x3 :: x4 :: x5 :: x6 :: x7 :: x8 :: old :: r) (aI a :: rest) M := fun hG H locs ls hP hS hl hn => lv_istore B.1 B.2.1 hd hl (by rw [← hn]; simp only [List.length_cons]; show 9 < _; omega) rfl (fun ls1 h1 => k hG H locs ls1 hP hS (ax_lv_st1 (v := aI a) h1 rfl (ax_hx (i := 8) rfl hx)) (by rw [← hn]; rfl))
theorem rr_lstore9 {a : Int} {old old2 : Option ax_V} {x0 x1 x2 x3 x4 x5 x6 x7 x8 : Option ax_V} {r : List (Option ax_V)} (B : ax_b X cc own n) (hd : decode cc pc = .ok (.lstore 9, 2)) (hx : ax_notL x8 = true) (k : AW X (pc + 2) (x0 :: x1 :: x2 :: x3 :: x4 :: x5 :: x6 :: x7 :: x8 :: some (aL a) :: none :: r) rest M) : AW X pc (x0 :: x1 :: x2 :: x3 :: x4 :: x5 :: x6 :: x7 :: x8 :: old :: old2 :: r) (aL a :: rest) M := fun hG H locs ls hP hS hl hn => lv_lstore B.1 B.2.1 hd hl (by rw [← hn]; simp only [List.length_cons]; show 9 + 1 < _; omega) rfl (fun ls1 h1 => k hG H locs ls1 hP hS (ax_lv_st2 (v := aL a) h1 rfl (ax_hx (i := 8) rfl hx)) (by rw [← hn]; rfl))
theorem rr_iinc9 {a z : Int} {x0 x1 x2 x3 x4 x5 x6 x7 x8 : Option ax_V} {r : List (Option ax_V)} (B : ax_b X cc own n) (hd : decode cc pc = .ok (.iinc 9 z, 3)) (hx : ax_notL x8 = true) (k : AW X (pc + 3) (x0 :: x1 :: x2 :: x3 :: x4 :: x5 :: x6 :: x7 :: x8 :: some (aI (a + z)) :: r) rest M) : AW X pc (x0 :: x1 :: x2 :: x3 :: x4 :: x5 :: x6 :: x7 :: x8 :: some (aI a) :: r) rest M := by
  intro hG H locs ls hP hS hl hn
  obtain ⟨kk, hkk⟩ := List.getElem?_of_mem (ax_lvL_mem.mpr ⟨aI a, (rfl : (x0 :: x1 :: x2 :: x3 :: x4 :: x5 :: x6 :: x7 :: x8 :: some (aI a) :: r)[9]? = some (some (aI a))), (rfl : cv X.g (aI a) = cv X.g (aI a))⟩)
  exact lv_iinc B.1 B.2.1 hd hl hkk (Int32.ofInt_add a z).symm (by rw [← hn]; simp) rfl (fun ls1 h1 => k hG H locs ls1 hP hS (ax_lv_st1 (v := aI (a + z)) h1 rfl (ax_hx (i := 8) rfl hx)) (by rw [← hn]; rfl))
theorem rr_iload10 {a : Int} {x0 x1 x2 x3 x4 x5 x6 x7 x8 x9 : Option ax_V} {r : List (Option ax_V)} (B : ax_b X cc own n) (hd : decode cc pc = .ok (.iload 10, 2)) (k : AW X (pc + 2) (x0 :: x1 :: x2 :: x3 :: x4 :: x5 :: x6 :: x7 :: x8 :: x9 :: some (aI a) :: r) (aI a :: rest) M) : AW X pc (x0 :: x1 :: x2 :: x3 :: x4 :: x5 :: x6 :: x7 :: x8 :: x9 :: some (aI a) :: r) rest M := fun hG H locs ls hP hS hl hn => lv_iload B.1 B.2.1 hd (ax_lv_get hl 10 rfl) (k hG H locs ls hP hS hl hn)
theorem rr_lload10 {a : Int} {x0 x1 x2 x3 x4 x5 x6 x7 x8 x9 : Option ax_V} {r : List (Option ax_V)} (B : ax_b X cc own n) (hd : decode cc pc = .ok (.lload 10, 2)) (k : AW X (pc + 2) (x0 :: x1 :: x2 :: x3 :: x4 :: x5 :: x6 :: x7 :: x8 :: x9 :: some (aL a) :: r) (aL a :: rest) M) : AW X pc (x0 :: x1 :: x2 :: x3 :: x4 :: x5 :: x6 :: x7 :: x8 :: x9 :: some (aL a) :: r) rest M := fun hG H locs ls hP hS hl hn => lv_lload B.1 B.2.1 hd (ax_lv_get hl 10 rfl) (k hG H locs ls hP hS hl hn)
theorem rr_istore10 {a : Int} {old : Option ax_V} {x0 x1 x2 x3 x4 x5 x6 x7 x8 x9 : Option ax_V} {r : List (Option ax_V)} (B : ax_b X cc own n) (hd : decode cc pc = .ok (.istore 10, 2)) (hx : ax_notL x9 = true) (k : AW X (pc + 2) (x0 :: x1 :: x2 :: x3 :: x4 :: x5 :: x6 :: x7 :: x8 :: x9 :: some (aI a) :: r) rest M) : AW X pc (x0 :: x1 :: x2 :: x3 :: x4 :: x5 :: x6 :: x7 :: x8 :: x9 :: old :: r) (aI a :: rest) M := fun hG H locs ls hP hS hl hn => lv_istore B.1 B.2.1 hd hl (by rw [← hn]; simp only [List.length_cons]; show 10 < _; omega) rfl (fun ls1 h1 => k hG H locs ls1 hP hS (ax_lv_st1 (v := aI a) h1 rfl (ax_hx (i := 9) rfl hx)) (by rw [← hn]; rfl))
theorem rr_lstore10 {a : Int} {old old2 : Option ax_V} {x0 x1 x2 x3 x4 x5 x6 x7 x8 x9 : Option ax_V} {r : List (Option ax_V)} (B : ax_b X cc own n) (hd : decode cc pc = .ok (.lstore 10, 2)) (hx : ax_notL x9 = true) (k : AW X (pc + 2) (x0 :: x1 :: x2 :: x3 :: x4 :: x5 :: x6 :: x7 :: x8 :: x9 :: some (aL a) :: none :: r) rest M) : AW X pc (x0 :: x1 :: x2 :: x3 :: x4 :: x5 :: x6 :: x7 :: x8 :: x9 :: old :: old2 :: r) (aL a :: rest) M := fun hG H locs ls hP hS hl hn => lv_lstore B.1 B.2.1 hd hl (by rw [← hn]; simp only [List.length_cons]; show 10 + 1 < _; omega) rfl (fun ls1 h1 => k hG H locs ls1 hP hS (ax_lv_st2 (v := aL a) h1 rfl (ax_hx (i := 9) rfl hx)) (by rw [← hn]; rfl))
theorem rr_iinc10 {a z : Int} {x0 x1 x2 x3 x4 x5 x6 x7 x8 x9 : Option ax_V} {r : List (Option ax_V)} (B : ax_b X cc own n) (hd : decode cc pc = .ok (.iinc 10 z, 3)) (hx : ax_notL x9 = true) (k : AW X (pc + 3) (x0 :: x1 :: x2 :: x3 :: x4 :: x5 :: x6 :: x7 :: x8 :: x9 :: some (aI (a + z)) :: r) rest M) : AW X pc (x0 :: x1 :: x2 :: x3 :: x4 :: x5 :: x6 :: x7 :: x8 :: x9 :: some (aI a) :: r) rest M := by
  intro hG H locs ls hP hS hl hn
  obtain ⟨kk, hkk⟩ := List.getElem?_of_mem (ax_lvL_mem.mpr ⟨aI a, (rfl : (x0 :: x1 :: x2 :: x3 :: x4 :: x5 :: x6 :: x7 :: x8 :: x9 :: some (aI a) :: r)[10]? = some (some (aI a))), (rfl : cv X.g (aI a) = cv X.g (aI a))⟩)
  exact lv_iinc B.1 B.2.1 hd hl hkk (Int32.ofInt_add a z).symm (by rw [← hn]; simp) rfl (fun ls1 h1 => k hG H locs ls1 hP hS (ax_lv_st1 (v := aI (a + z)) h1 rfl (ax_hx (i := 9) rfl hx)) (by rw [← hn]; rfl))
theorem rr_iload11 {a : Int} {x0 x1 x2 x3 x4 x5 x6 x7 x8 x9 x10 : Option ax_V} {r : List (Option ax_V)} (B : ax_b X cc own n) (hd : decode cc pc = .ok (.iload 11, 2)) (k : AW X (pc + 2) (x0 :: x1 :: x2 :: x3 :: x4 :: x5 :: x6 :: x7 :: x8 :: x9 :: x10 :: some (aI a) :: r) (aI a :: rest) M) : AW X pc (x0 :: x1 :: x2 :: x3 :: x4 :: x5 :: x6 :: x7 :: x8 :: x9 :: x10 :: some (aI a) :: r) rest M := fun hG H locs ls hP hS hl hn => lv_iload B.1 B.2.1 hd (ax_lv_get hl 11 rfl) (k hG H locs ls hP hS hl hn)
theorem rr_lload11 {a : Int} {x0 x1 x2 x3 x4 x5 x6 x7 x8 x9 x10 : Option ax_V} {r : List (Option ax_V)} (B : ax_b X cc own n) (hd : decode cc pc = .ok (.lload 11, 2)) (k : AW X (pc + 2) (x0 :: x1 :: x2 :: x3 :: x4 :: x5 :: x6 :: x7 :: x8 :: x9 :: x10 :: some (aL a) :: r) (aL a :: rest) M) : AW X pc (x0 :: x1 :: x2 :: x3 :: x4 :: x5 :: x6 :: x7 :: x8 :: x9 :: x10 :: some (aL a) :: r) rest M := fun hG H locs ls hP hS hl hn => lv_lload B.1 B.2.1 hd (ax_lv_get hl 11 rfl) (k hG H locs ls hP hS hl hn)
theorem rr_istore11 {a : Int} {old : Option ax_V} {x0 x1 x2 x3 x4 x5 x6 x7 x8 x9 x10 : Option ax_V} {r : List (Option ax_V)} (B : ax_b X cc own n) (hd : decode cc pc = .ok (.istore 11, 2)) (hx : ax_notL x10 = true) (k : AW X (pc + 2) (x0 :: x1 :: x2 :: x3 :: x4 :: x5 :: x6 :: x7 :: x8 :: x9 :: x10 :: some (aI a) :: r) rest M) : AW X pc (x0 :: x1 :: x2 :: x3 :: x4 :: x5 :: x6 :: x7 :: x8 :: x9 :: x10 :: old :: r) (aI a :: rest) M := fun hG H locs ls hP hS hl hn => lv_istore B.1 B.2.1 hd hl (by rw [← hn]; simp only [List.length_cons]; show 11 < _; omega) rfl (fun ls1 h1 => k hG H locs ls1 hP hS (ax_lv_st1 (v := aI a) h1 rfl (ax_hx (i := 10) rfl hx)) (by rw [← hn]; rfl))
theorem rr_iinc11 {a z : Int} {x0 x1 x2 x3 x4 x5 x6 x7 x8 x9 x10 : Option ax_V} {r : List (Option ax_V)} (B : ax_b X cc own n) (hd : decode cc pc = .ok (.iinc 11 z, 3)) (hx : ax_notL x10 = true) (k : AW X (pc + 3) (x0 :: x1 :: x2 :: x3 :: x4 :: x5 :: x6 :: x7 :: x8 :: x9 :: x10 :: some (aI (a + z)) :: r) rest M) : AW X pc (x0 :: x1 :: x2 :: x3 :: x4 :: x5 :: x6 :: x7 :: x8 :: x9 :: x10 :: some (aI a) :: r) rest M := by
  intro hG H locs ls hP hS hl hn
  obtain ⟨kk, hkk⟩ := List.getElem?_of_mem (ax_lvL_mem.mpr ⟨aI a, (rfl : (x0 :: x1 :: x2 :: x3 :: x4 :: x5 :: x6 :: x7 :: x8 :: x9 :: x10 :: some (aI a) :: r)[11]? = some (some (aI a))), (rfl : cv X.g (aI a) = cv X.g (aI a))⟩)
  exact lv_iinc B.1 B.2.1 hd hl hkk (Int32.ofInt_add a z).symm (by rw [← hn]; simp) rfl (fun ls1 h1 => k hG H locs ls1 hP hS (ax_lv_st1 (v := aI (a + z)) h1 rfl (ax_hx (i := 10) rfl hx)) (by rw [← hn]; rfl))
def ax_and (a b : Int) : Int := (ax_i a &&& ax_i b).toInt
def ax_or (a b : Int) : Int := (ax_i a ||| ax_i b).toInt
def ax_xor (a b : Int) : Int := (ax_i a ^^^ ax_i b).toInt
def ax_shl (a b : Int) : Int := (ax_i a <<< (ax_i b &&& 31)).toInt
def ax_shr (a b : Int) : Int := (ax_i a >>> (ax_i b &&& 31)).toInt
def ax_ushr (a b : Int) : Int := ((ax_i a).toUInt32 >>> ((ax_i b).toUInt32 &&& Int32.toUInt32 31)).toInt32.toInt
theorem ax_tdiv {a b : Int} (h : 0 ≤ a ∧ a ≤ 2147483647 ∧ 0 < b ∧ b ≤ 2147483647) : ax_i a / ax_i b = ax_i (a / b) := by
  rw [← Int.tdiv_eq_ediv_of_nonneg h.1]
  exact (Int32.ofInt_tdiv (by show (-2147483648 : Int) ≤ a; omega) (by show a ≤ (2147483647 : Int); omega) (by show (-2147483648 : Int) ≤ b; omega) (by show b ≤ (2147483647 : Int); omega)).symm
theorem ax_ltdiv {a b : Int} (h : 0 ≤ a ∧ a ≤ 9223372036854775807 ∧ 0 < b ∧ b ≤ 9223372036854775807) : ax_l a / ax_l b = ax_l (a / b) := by
  rw [← Int.tdiv_eq_ediv_of_nonneg h.1]
  exact (Int64.ofInt_tdiv (by show (-9223372036854775808 : Int) ≤ a; omega) (by show a ≤ (9223372036854775807 : Int); omega) (by show (-9223372036854775808 : Int) ≤ b; omega) (by show b ≤ (9223372036854775807 : Int); omega)).symm
theorem ax_ne0 {b : Int} (h : 0 < b ∧ b ≤ 2147483647) : ¬ ax_i b = 0 := by
  rw [← ax_i_0, ax_i_eq (by omega)]; omega
theorem ax_lne0 {b : Int} (h : 0 < b ∧ b ≤ 9223372036854775807) : ¬ ax_l b = 0 := by
  intro e
  have := congrArg Int64.toInt e
  rw [ax_l_of (by omega)] at this
  have h0 : (0 : Int64).toInt = 0 := rfl
  omega
theorem ax_rem {a b : Int} (h : 0 ≤ a ∧ a ≤ 2147483647 ∧ 0 < b ∧ b ≤ 2147483647) : ax_i a - ax_i a / ax_i b * ax_i b = ax_i (a % b) := by
  rw [ax_tdiv h]
  have e : a % b = a - a / b * b := by
    have := Int.emod_def a b
    rw [this, Int.mul_comm]
  rw [e]
  unfold ax_i
  rw [Int32.ofInt_sub, Int32.ofInt_mul]
theorem ax_lrem {a b : Int} (h : 0 ≤ a ∧ a ≤ 9223372036854775807 ∧ 0 < b ∧ b ≤ 9223372036854775807) : ax_l a - ax_l a / ax_l b * ax_l b = ax_l (a % b) := by
  rw [ax_ltdiv h]
  have e : a % b = a - a / b * b := by
    have := Int.emod_def a b
    rw [this, Int.mul_comm]
  rw [e]
  unfold ax_l
  rw [Int64.ofInt_sub, Int64.ofInt_mul]
theorem ax_not (a : Int) : ax_i a ^^^ ax_i (-1) = ax_i (-1 - a) := by
  unfold ax_i
  rw [Int32.ofInt_sub]
  apply Int32.toBitVec_inj.mp
  simp only [Int32.toBitVec_xor, Int32.toBitVec_sub, Int32.toBitVec_ofInt]
  generalize BitVec.ofInt 32 a = v
  have h1 : BitVec.ofInt 32 (-1) = BitVec.allOnes 32 := by decide
  rw [h1, BitVec.xor_allOnes]
  apply BitVec.eq_of_toNat_eq
  rw [BitVec.toNat_not, BitVec.toNat_sub, BitVec.toNat_allOnes]
  have := v.isLt
  omega
theorem rr_iadd {a b : Int} (B : ax_b X cc own n) (hd : decode cc pc = .ok (.iadd, 1)) (k : AW X (pc + 1) lv (aI (a + b) :: rest) M) : AW X pc lv (aI b :: aI a :: rest) M := by
  intro hG H locs ls hP hS hl hn
  refine lv_iadd B.1 B.2.1 hd ?_
  refine lv_topi (fun y hy => ?_)
  obtain rfl := hy.trans (Int32.ofInt_add a b).symm
  exact k hG H locs ls hP hS hl hn
theorem rr_isub {a b : Int} (B : ax_b X cc own n) (hd : decode cc pc = .ok (.isub, 1)) (k : AW X (pc + 1) lv (aI (a - b) :: rest) M) : AW X pc lv (aI b :: aI a :: rest) M := by
  intro hG H locs ls hP hS hl hn
  refine lv_isub B.1 B.2.1 hd ?_
  refine lv_topi (fun y hy => ?_)
  obtain rfl := hy.trans (Int32.ofInt_sub a b).symm
  exact k hG H locs ls hP hS hl hn
theorem rr_imul {a b : Int} (B : ax_b X cc own n) (hd : decode cc pc = .ok (.imul, 1)) (k : AW X (pc + 1) lv (aI (a * b) :: rest) M) : AW X pc lv (aI b :: aI a :: rest) M := by
  intro hG H locs ls hP hS hl hn
  refine lv_imul B.1 B.2.1 hd ?_
  refine lv_topi (fun y hy => ?_)
  obtain rfl := hy.trans (Int32.ofInt_mul a b).symm
  exact k hG H locs ls hP hS hl hn
theorem rr_iand {a b : Int} (B : ax_b X cc own n) (hd : decode cc pc = .ok (.iand, 1)) (k : AW X (pc + 1) lv (aI (ax_and a b) :: rest) M) : AW X pc lv (aI b :: aI a :: rest) M := by
  intro hG H locs ls hP hS hl hn
  refine lv_iand B.1 B.2.1 hd ?_
  refine lv_topi (fun y hy => ?_)
  obtain rfl := hy.trans (Int32.ofInt_toInt _).symm
  exact k hG H locs ls hP hS hl hn
theorem rr_ior {a b : Int} (B : ax_b X cc own n) (hd : decode cc pc = .ok (.ior, 1)) (k : AW X (pc + 1) lv (aI (ax_or a b) :: rest) M) : AW X pc lv (aI b :: aI a :: rest) M := by
  intro hG H locs ls hP hS hl hn
  refine lv_ior B.1 B.2.1 hd ?_
  refine lv_topi (fun y hy => ?_)
  obtain rfl := hy.trans (Int32.ofInt_toInt _).symm
  exact k hG H locs ls hP hS hl hn
theorem rr_ishl {a b : Int} (B : ax_b X cc own n) (hd : decode cc pc = .ok (.ishl, 1)) (k : AW X (pc + 1) lv (aI (ax_shl a b) :: rest) M) : AW X pc lv (aI b :: aI a :: rest) M := by
  intro hG H locs ls hP hS hl hn
  refine lv_ishl B.1 B.2.1 hd ?_
  refine lv_topi (fun y hy => ?_)
  obtain rfl := hy.trans (Int32.ofInt_toInt _).symm
  exact k hG H locs ls hP hS hl hn
theorem rr_ishr {a b : Int} (B : ax_b X cc own n) (hd : decode cc pc = .ok (.ishr, 1)) (k : AW X (pc + 1) lv (aI (ax_shr a b) :: rest) M) : AW X pc lv (aI b :: aI a :: rest) M := by
  intro hG H locs ls hP hS hl hn
  refine lv_ishr B.1 B.2.1 hd ?_
  refine lv_topi (fun y hy => ?_)
  obtain rfl := hy.trans (Int32.ofInt_toInt _).symm
  exact k hG H locs ls hP hS hl hn
theorem rr_inot {a : Int} (B : ax_b X cc own n) (hd : decode cc pc = .ok (.ixor, 1)) (k : AW X (pc + 1) lv (aI (-1 - a) :: rest) M) : AW X pc lv (aI (-1) :: aI a :: rest) M := by
  intro hG H locs ls hP hS hl hn
  refine lv_ixor B.1 B.2.1 hd ?_
  refine lv_topi (fun y hy => ?_)
  obtain rfl := hy.trans (ax_not a)
  exact k hG H locs ls hP hS hl hn
theorem rr_iushr {a b : Int} (B : ax_b X cc own n) (hd : decode cc pc = .ok (.iushr, 1)) (k : AW X (pc + 1) lv (aI (ax_ushr a b) :: rest) M) : AW X pc lv (aI b :: aI a :: rest) M := by
  intro hG H locs ls hP hS hl hn
  refine lv_iushr (v := ax_i (ax_ushr a b)) B.1 B.2.1 hd (Int32.ofInt_toInt _).symm ?_
  exact k hG H locs ls hP hS hl hn
theorem rr_idiv {a b : Int} (B : ax_b X cc own n) (hd : decode cc pc = .ok (.idiv, 1)) (h : 0 ≤ a ∧ a ≤ 2147483647 ∧ 0 < b ∧ b ≤ 2147483647) (k : AW X (pc + 1) lv (aI (a / b) :: rest) M) : AW X pc lv (aI b :: aI a :: rest) M := by
  intro hG H locs ls hP hS hl hn
  refine lv_idiv B.1 B.2.1 hd (ax_ne0 h.2.2) ?_
  refine lv_topi (fun y hy => ?_)
  obtain rfl := hy.trans (ax_tdiv h)
  exact k hG H locs ls hP hS hl hn
theorem rr_irem {a b : Int} (B : ax_b X cc own n) (hd : decode cc pc = .ok (.irem, 1)) (h : 0 ≤ a ∧ a ≤ 2147483647 ∧ 0 < b ∧ b ≤ 2147483647) (k : AW X (pc + 1) lv (aI (a % b) :: rest) M) : AW X pc lv (aI b :: aI a :: rest) M := by
  intro hG H locs ls hP hS hl hn
  refine lv_irem B.1 B.2.1 hd (ax_ne0 h.2.2) ?_
  refine lv_topi (fun y hy => ?_)
  obtain rfl := hy.trans (ax_rem h)
  exact k hG H locs ls hP hS hl hn
theorem rr_ladd {a b : Int} (B : ax_b X cc own n) (hd : decode cc pc = .ok (.ladd, 1)) (k : AW X (pc + 1) lv (aL (a + b) :: rest) M) : AW X pc lv (aL b :: aL a :: rest) M := by
  intro hG H locs ls hP hS hl hn
  refine lv_ladd B.1 B.2.1 hd ?_
  refine lv_topl (fun y hy => ?_)
  obtain rfl := hy.trans (Int64.ofInt_add a b).symm
  exact k hG H locs ls hP hS hl hn
theorem rr_lsub {a b : Int} (B : ax_b X cc own n) (hd : decode cc pc = .ok (.lsub, 1)) (k : AW X (pc + 1) lv (aL (a - b) :: rest) M) : AW X pc lv (aL b :: aL a :: rest) M := by
  intro hG H locs ls hP hS hl hn
  refine lv_lsub B.1 B.2.1 hd ?_
  refine lv_topl (fun y hy => ?_)
  obtain rfl := hy.trans (Int64.ofInt_sub a b).symm
  exact k hG H locs ls hP hS hl hn
theorem rr_lmul {a b : Int} (B : ax_b X cc own n) (hd : decode cc pc = .ok (.lmul, 1)) (k : AW X (pc + 1) lv (aL (a * b) :: rest) M) : AW X pc lv (aL b :: aL a :: rest) M := by
  intro hG H locs ls hP hS hl hn
  refine lv_lmul B.1 B.2.1 hd ?_
  refine lv_topl (fun y hy => ?_)
  obtain rfl := hy.trans (Int64.ofInt_mul a b).symm
  exact k hG H locs ls hP hS hl hn
theorem rr_ldiv {a b : Int} (B : ax_b X cc own n) (hd : decode cc pc = .ok (.ldiv, 1)) (h : 0 ≤ a ∧ a ≤ 9223372036854775807 ∧ 0 < b ∧ b ≤ 9223372036854775807) (k : AW X (pc + 1) lv (aL (a / b) :: rest) M) : AW X pc lv (aL b :: aL a :: rest) M := by
  intro hG H locs ls hP hS hl hn
  refine lv_ldiv B.1 B.2.1 hd (ax_lne0 h.2.2) ?_
  refine lv_topl (fun y hy => ?_)
  obtain rfl := hy.trans (ax_ltdiv h)
  exact k hG H locs ls hP hS hl hn
theorem rr_lrem {a b : Int} (B : ax_b X cc own n) (hd : decode cc pc = .ok (.lrem, 1)) (h : 0 ≤ a ∧ a ≤ 9223372036854775807 ∧ 0 < b ∧ b ≤ 9223372036854775807) (k : AW X (pc + 1) lv (aL (a % b) :: rest) M) : AW X pc lv (aL b :: aL a :: rest) M := by
  intro hG H locs ls hP hS hl hn
  refine lv_lrem B.1 B.2.1 hd (ax_lne0 h.2.2) ?_
  refine lv_topl (fun y hy => ?_)
  obtain rfl := hy.trans (ax_lrem h)
  exact k hG H locs ls hP hS hl hn
theorem rr_i2l {a : Int} (B : ax_b X cc own n) (hd : decode cc pc = .ok (.i2l, 1)) (h : -2147483648 ≤ a ∧ a ≤ 2147483647) (k : AW X (pc + 1) lv (aL a :: rest) M) : AW X pc lv (aI a :: rest) M := by
  intro hG H locs ls hP hS hl hn
  refine lv_i2l (v := ax_l a) B.1 B.2.1 hd ?_ (k hG H locs ls hP hS hl hn)
  rw [← Int64.ofInt_int32ToInt, ax_i_of h]; rfl
theorem rr_l2i {a : Int} (B : ax_b X cc own n) (hd : decode cc pc = .ok (.l2i, 1)) (h : -2147483648 ≤ a ∧ a ≤ 2147483647) (k : AW X (pc + 1) lv (aI a :: rest) M) : AW X pc lv (aL a :: rest) M := by
  intro hG H locs ls hP hS hl hn
  refine lv_l2i (v := ax_i a) B.1 B.2.1 hd ?_ (k hG H locs ls hP hS hl hn)
  rw [← Int32.ofInt_int64ToInt, ax_l_of (by omega)]; rfl
def ax_b8 (a : Int) : Int := (ax_i a).toInt8.toInt32.toInt
def ax_s16 (a : Int) : Int := (ax_i a).toInt16.toInt32.toInt
theorem rr_i2b {a : Int} (B : ax_b X cc own n) (hd : decode cc pc = .ok (.i2b, 1)) (k : AW X (pc + 1) lv (aI (ax_b8 a) :: rest) M) : AW X pc lv (aI a :: rest) M := fun hG H locs ls hP hS hl hn => lv_i2b (v := ax_i (ax_b8 a)) B.1 B.2.1 hd (Int32.ofInt_toInt _).symm (k hG H locs ls hP hS hl hn)
theorem rr_i2s {a : Int} (B : ax_b X cc own n) (hd : decode cc pc = .ok (.i2s, 1)) (k : AW X (pc + 1) lv (aI (ax_s16 a) :: rest) M) : AW X pc lv (aI a :: rest) M := fun hG H locs ls hP hS hl hn => lv_i2s (v := ax_i (ax_s16 a)) B.1 B.2.1 hd (Int32.ofInt_toInt _).symm (k hG H locs ls hP hS hl hn)
theorem rr_dup {a : ax_V} (B : ax_b X cc own n) (hd : decode cc pc = .ok (.dup, 1)) (ha : ax_notL (some a) = true) (k : AW X (pc + 1) lv (a :: a :: rest) M) : AW X pc lv (a :: rest) M := fun hG H locs ls hP hS hl hn => lv_dup B.1 B.2.1 hd (ax_notL_cat ha) (k hG H locs ls hP hS hl hn)
theorem rr_dup2 {a b : ax_V} (B : ax_b X cc own n) (hd : decode cc pc = .ok (.dup2, 1)) (ha : ax_notL (some a) = true) (hb : ax_notL (some b) = true) (k : AW X (pc + 1) lv (a :: b :: a :: b :: rest) M) : AW X pc lv (a :: b :: rest) M := fun hG H locs ls hP hS hl hn => lv_dup2_11 B.1 B.2.1 hd (ax_notL_cat ha) (ax_notL_cat hb) (k hG H locs ls hP hS hl hn)
theorem rr_pop {a : ax_V} (B : ax_b X cc own n) (hd : decode cc pc = .ok (.pop, 1)) (ha : ax_notL (some a) = true) (k : AW X (pc + 1) lv rest M) : AW X pc lv (a :: rest) M := fun hG H locs ls hP hS hl hn => lv_pop B.1 B.2.1 hd (ax_notL_cat ha) (k hG H locs ls hP hS hl hn)
theorem rr_goto {off : Int} (tgt : Nat) (B : ax_b X cc own n) (hd : decode cc pc = .ok (.goto off, 3)) (ht : (pc : Int) + off = (tgt : Int)) (k : AW X tgt lv rest M) : AW X pc lv rest M := fun hG H locs ls hP hS hl hn => lv_goto B.1 B.2.1 hd ht (k hG H locs ls hP hS hl hn)
def bi (b : Bool) : Int := if b then 1 else 0
theorem ax_i_ne {a b : Int} (h : -2147483648 ≤ a ∧ a ≤ 2147483647 ∧ -2147483648 ≤ b ∧ b ≤ 2147483647) (e : a ≠ b) : ¬ ax_i a = ax_i b := fun q => e ((ax_i_eq h).mp q)
theorem rr_icmp_eq {a b off : Int} (tgt : Nat) (B : ax_b X cc own n) (hd : decode cc pc = .ok (.if_icmp .eq off, 3)) (ht : (pc : Int) + off = (tgt : Int)) (h : -2147483648 ≤ a ∧ a ≤ 2147483647 ∧ -2147483648 ≤ b ∧ b ≤ 2147483647) (kt : a = b → AW X tgt lv rest M) (kf : a ≠ b → AW X (pc + 3) lv rest M) : AW X pc lv (aI b :: aI a :: rest) M := by
  intro hG H locs ls hP hS hl hn
  have e1 := ax_i_eq h
  have e2 := ax_i_lt h
  have e3 := ax_i_le h
  have h' : -2147483648 ≤ b ∧ b ≤ 2147483647 ∧ -2147483648 ≤ a ∧ a ≤ 2147483647 := ⟨h.2.2.1, h.2.2.2, h.1, h.2.1⟩
  have e4 := ax_i_lt h'
  have e5 := ax_i_le h'
  refine lv_icmp_eq B.1 B.2.1 hd ht (fun q => ?_) (fun q => ?_)
  · refine kt ?_ hG H locs ls hP hS hl hn
    simp only [gt_iff_lt, ge_iff_le, ne_eq, e1, e2, e3, e4, e5] at q
    omega
  · refine kf ?_ hG H locs ls hP hS hl hn
    simp only [gt_iff_lt, ge_iff_le, ne_eq, e1, e2, e3, e4, e5] at q
    omega
theorem rr_if_eq {a off : Int} (tgt : Nat) (B : ax_b X cc own n) (hd : decode cc pc = .ok (.ifCond .eq off, 3)) (ht : (pc : Int) + off = (tgt : Int)) (h : -2147483648 ≤ a ∧ a ≤ 2147483647) (kt : a = 0 → AW X tgt lv rest M) (kf : a ≠ 0 → AW X (pc + 3) lv rest M) : AW X pc lv (aI a :: rest) M := by
  intro hG H locs ls hP hS hl hn
  have h1 : -2147483648 ≤ a ∧ a ≤ 2147483647 ∧ -2147483648 ≤ (0 : Int) ∧ (0 : Int) ≤ 2147483647 := by omega
  have h2 : -2147483648 ≤ (0 : Int) ∧ (0 : Int) ≤ 2147483647 ∧ -2147483648 ≤ a ∧ a ≤ 2147483647 := by omega
  have e1 := ax_i_eq h1
  have e2 := ax_i_lt h1
  have e3 := ax_i_le h1
  have e4 := ax_i_lt h2
  have e5 := ax_i_le h2
  rw [ax_i_0] at e1 e2 e3 e4 e5
  refine lv_if_eq B.1 B.2.1 hd ht (fun q => ?_) (fun q => ?_)
  · refine kt ?_ hG H locs ls hP hS hl hn
    simp only [gt_iff_lt, ge_iff_le, ne_eq, e1, e2, e3, e4, e5] at q
    omega
  · refine kf ?_ hG H locs ls hP hS hl hn
    simp only [gt_iff_lt, ge_iff_le, ne_eq, e1, e2, e3, e4, e5] at q
    omega
theorem rr_lcmp_eq {a b off : Int} (tgt : Nat) (B : ax_b X cc own n) (hd : decode cc pc = .ok (.lcmp, 1)) (hd2 : decode cc (pc + 1) = .ok (.ifCond .eq off, 3)) (ht : ((pc + 1 : Nat) : Int) + off = (tgt : Int)) (h : -9223372036854775808 ≤ a ∧ a ≤ 9223372036854775807 ∧ -9223372036854775808 ≤ b ∧ b ≤ 9223372036854775807) (kt : a = b → AW X tgt lv rest M) (kf : a ≠ b → AW X (pc + 1 + 3) lv rest M) : AW X pc lv (aL b :: aL a :: rest) M := by
  intro hG H locs ls hP hS hl hn
  have ea := ax_l_of (z := a) ⟨h.1, h.2.1⟩
  have eb := ax_l_of (z := b) h.2.2
  refine W.lcmp B.1 B.2.1 hd ?_
  refine lv_if_eq B.1 B.2.1 hd2 ht (fun q => ?_) (fun q => ?_)
  · refine kt ?_ hG H locs ls hP hS hl hn
    simp only [gt_iff_lt, ge_iff_le, ne_eq, lg_cmp_ge, lg_cmp_le, lg_cmp_gt, lg_cmp_lt, lg_cmp_eq, Int64.lt_iff_toInt_lt, Int64.le_iff_toInt_le, ← Int64.toInt_inj, ea, eb] at q
    omega
  · refine kf ?_ hG H locs ls hP hS hl hn
    simp only [gt_iff_lt, ge_iff_le, ne_eq, lg_cmp_ge, lg_cmp_le, lg_cmp_gt, lg_cmp_lt, lg_cmp_eq, Int64.lt_iff_toInt_lt, Int64.le_iff_toInt_le, ← Int64.toInt_inj, ea, eb] at q
    omega
theorem rr_icmp_ne {a b off : Int} (tgt : Nat) (B : ax_b X cc own n) (hd : decode cc pc = .ok (.if_icmp .ne off, 3)) (ht : (pc : Int) + off = (tgt : Int)) (h : -2147483648 ≤ a ∧ a ≤ 2147483647 ∧ -2147483648 ≤ b ∧ b ≤ 2147483647) (kt : a ≠ b → AW X tgt lv rest M) (kf : a = b → AW X (pc + 3) lv rest M) : AW X pc lv (aI b :: aI a :: rest) M := by
  intro hG H locs ls hP hS hl hn
  have e1 := ax_i_eq h
  have e2 := ax_i_lt h
  have e3 := ax_i_le h
  have h' : -2147483648 ≤ b ∧ b ≤ 2147483647 ∧ -2147483648 ≤ a ∧ a ≤ 2147483647 := ⟨h.2.2.1, h.2.2.2, h.1, h.2.1⟩
  have e4 := ax_i_lt h'
  have e5 := ax_i_le h'
  refine lv_icmp_ne B.1 B.2.1 hd ht (fun q => ?_) (fun q => ?_)
  · refine kt ?_ hG H locs ls hP hS hl hn
    simp only [gt_iff_lt, ge_iff_le, ne_eq, e1, e2, e3, e4, e5] at q
    omega
  · refine kf ?_ hG H locs ls hP hS hl hn
    simp only [gt_iff_lt, ge_iff_le, ne_eq, e1, e2, e3, e4, e5] at q
    omega
theorem rr_if_ne {a off : Int} (tgt : Nat) (B : ax_b X cc own n) (hd : decode cc pc = .ok (.ifCond .ne off, 3)) (ht : (pc : Int) + off = (tgt : Int)) (h : -2147483648 ≤ a ∧ a ≤ 2147483647) (kt : a ≠ 0 → AW X tgt lv rest M) (kf : a = 0 → AW X (pc + 3) lv rest M) : AW X pc lv (aI a :: rest) M := by
  intro hG H locs ls hP hS hl hn
  have h1 : -2147483648 ≤ a ∧ a ≤ 2147483647 ∧ -2147483648 ≤ (0 : Int) ∧ (0 : Int) ≤ 2147483647 := by omega
  have h2 : -2147483648 ≤ (0 : Int) ∧ (0 : Int) ≤ 2147483647 ∧ -2147483648 ≤ a ∧ a ≤ 2147483647 := by omega
  have e1 := ax_i_eq h1
  have e2 := ax_i_lt h1
  have e3 := ax_i_le h1
  have e4 := ax_i_lt h2
  have e5 := ax_i_le h2
  rw [ax_i_0] at e1 e2 e3 e4 e5
  refine lv_if_ne B.1 B.2.1 hd ht (fun q => ?_) (fun q => ?_)
  · refine kt ?_ hG H locs ls hP hS hl hn
    simp only [gt_iff_lt, ge_iff_le, ne_eq, e1, e2, e3, e4, e5] at q
    omega
  · refine kf ?_ hG H locs ls hP hS hl hn
    simp only [gt_iff_lt, ge_iff_le, ne_eq, e1, e2, e3, e4, e5] at q
    omega
theorem rr_lcmp_ne {a b off : Int} (tgt : Nat) (B : ax_b X cc own n) (hd : decode cc pc = .ok (.lcmp, 1)) (hd2 : decode cc (pc + 1) = .ok (.ifCond .ne off, 3)) (ht : ((pc + 1 : Nat) : Int) + off = (tgt : Int)) (h : -9223372036854775808 ≤ a ∧ a ≤ 9223372036854775807 ∧ -9223372036854775808 ≤ b ∧ b ≤ 9223372036854775807) (kt : a ≠ b → AW X tgt lv rest M) (kf : a = b → AW X (pc + 1 + 3) lv rest M) : AW X pc lv (aL b :: aL a :: rest) M := by
  intro hG H locs ls hP hS hl hn
  have ea := ax_l_of (z := a) ⟨h.1, h.2.1⟩
  have eb := ax_l_of (z := b) h.2.2
  refine W.lcmp B.1 B.2.1 hd ?_
  refine lv_if_ne B.1 B.2.1 hd2 ht (fun q => ?_) (fun q => ?_)
  · refine kt ?_ hG H locs ls hP hS hl hn
    simp only [gt_iff_lt, ge_iff_le, ne_eq, lg_cmp_ge, lg_cmp_le, lg_cmp_gt, lg_cmp_lt, lg_cmp_eq, Int64.lt_iff_toInt_lt, Int64.le_iff_toInt_le, ← Int64.toInt_inj, ea, eb] at q
    omega
  · refine kf ?_ hG H locs ls hP hS hl hn
    simp only [gt_iff_lt, ge_iff_le, ne_eq, lg_cmp_ge, lg_cmp_le, lg_cmp_gt, lg_cmp_lt, lg_cmp_eq, Int64.lt_iff_toInt_lt, Int64.le_iff_toInt_le, ← Int64.toInt_inj, ea, eb] at q
    omega
theorem rr_icmp_lt {a b off : Int} (tgt : Nat) (B : ax_b X cc own n) (hd : decode cc pc = .ok (.if_icmp .lt off, 3)) (ht : (pc : Int) + off = (tgt : Int)) (h : -2147483648 ≤ a ∧ a ≤ 2147483647 ∧ -2147483648 ≤ b ∧ b ≤ 2147483647) (kt : a < b → AW X tgt lv rest M) (kf : b ≤ a → AW X (pc + 3) lv rest M) : AW X pc lv (aI b :: aI a :: rest) M := by
  intro hG H locs ls hP hS hl hn
  have e1 := ax_i_eq h
  have e2 := ax_i_lt h
  have e3 := ax_i_le h
  have h' : -2147483648 ≤ b ∧ b ≤ 2147483647 ∧ -2147483648 ≤ a ∧ a ≤ 2147483647 := ⟨h.2.2.1, h.2.2.2, h.1, h.2.1⟩
  have e4 := ax_i_lt h'
  have e5 := ax_i_le h'
  refine lv_icmp_lt B.1 B.2.1 hd ht (fun q => ?_) (fun q => ?_)
  · refine kt ?_ hG H locs ls hP hS hl hn
    simp only [gt_iff_lt, ge_iff_le, ne_eq, e1, e2, e3, e4, e5] at q
    omega
  · refine kf ?_ hG H locs ls hP hS hl hn
    simp only [gt_iff_lt, ge_iff_le, ne_eq, e1, e2, e3, e4, e5] at q
    omega
theorem rr_if_lt {a off : Int} (tgt : Nat) (B : ax_b X cc own n) (hd : decode cc pc = .ok (.ifCond .lt off, 3)) (ht : (pc : Int) + off = (tgt : Int)) (h : -2147483648 ≤ a ∧ a ≤ 2147483647) (kt : a < 0 → AW X tgt lv rest M) (kf : 0 ≤ a → AW X (pc + 3) lv rest M) : AW X pc lv (aI a :: rest) M := by
  intro hG H locs ls hP hS hl hn
  have h1 : -2147483648 ≤ a ∧ a ≤ 2147483647 ∧ -2147483648 ≤ (0 : Int) ∧ (0 : Int) ≤ 2147483647 := by omega
  have h2 : -2147483648 ≤ (0 : Int) ∧ (0 : Int) ≤ 2147483647 ∧ -2147483648 ≤ a ∧ a ≤ 2147483647 := by omega
  have e1 := ax_i_eq h1
  have e2 := ax_i_lt h1
  have e3 := ax_i_le h1
  have e4 := ax_i_lt h2
  have e5 := ax_i_le h2
  rw [ax_i_0] at e1 e2 e3 e4 e5
  refine lv_if_lt B.1 B.2.1 hd ht (fun q => ?_) (fun q => ?_)
  · refine kt ?_ hG H locs ls hP hS hl hn
    simp only [gt_iff_lt, ge_iff_le, ne_eq, e1, e2, e3, e4, e5] at q
    omega
  · refine kf ?_ hG H locs ls hP hS hl hn
    simp only [gt_iff_lt, ge_iff_le, ne_eq, e1, e2, e3, e4, e5] at q
    omega
theorem rr_lcmp_lt {a b off : Int} (tgt : Nat) (B : ax_b X cc own n) (hd : decode cc pc = .ok (.lcmp, 1)) (hd2 : decode cc (pc + 1) = .ok (.ifCond .lt off, 3)) (ht : ((pc + 1 : Nat) : Int) + off = (tgt : Int)) (h : -9223372036854775808 ≤ a ∧ a ≤ 9223372036854775807 ∧ -9223372036854775808 ≤ b ∧ b ≤ 9223372036854775807) (kt : a < b → AW X tgt lv rest M) (kf : b ≤ a → AW X (pc + 1 + 3) lv rest M) : AW X pc lv (aL b :: aL a :: rest) M := by
  intro hG H locs ls hP hS hl hn
  have ea := ax_l_of (z := a) ⟨h.1, h.2.1⟩
  have eb := ax_l_of (z := b) h.2.2
  refine W.lcmp B.1 B.2.1 hd ?_
  refine lv_if_lt B.1 B.2.1 hd2 ht (fun q => ?_) (fun q => ?_)
  · refine kt ?_ hG H locs ls hP hS hl hn
    simp only [gt_iff_lt, ge_iff_le, ne_eq, lg_cmp_ge, lg_cmp_le, lg_cmp_gt, lg_cmp_lt, lg_cmp_eq, Int64.lt_iff_toInt_lt, Int64.le_iff_toInt_le, ← Int64.toInt_inj, ea, eb] at q
    omega
  · refine kf ?_ hG H locs ls hP hS hl hn
    simp only [gt_iff_lt, ge_iff_le, ne_eq, lg_cmp_ge, lg_cmp_le, lg_cmp_gt, lg_cmp_lt, lg_cmp_eq, Int64.lt_iff_toInt_lt, Int64.le_iff_toInt_le, ← Int64.toInt_inj, ea, eb] at q
    omega
theorem rr_icmp_ge {a b off : Int} (tgt : Nat) (B : ax_b X cc own n) (hd : decode cc pc = .ok (.if_icmp .ge off, 3)) (ht : (pc : Int) + off = (tgt : Int)) (h : -2147483648 ≤ a ∧ a ≤ 2147483647 ∧ -2147483648 ≤ b ∧ b ≤ 2147483647) (kt : b ≤ a → AW X tgt lv rest M) (kf : a < b → AW X (pc + 3) lv rest M) : AW X pc lv (aI b :: aI a :: rest) M := by
  intro hG H locs ls hP hS hl hn
  have e1 := ax_i_eq h
  have e2 := ax_i_lt h
  have e3 := ax_i_le h
  have h' : -2147483648 ≤ b ∧ b ≤ 2147483647 ∧ -2147483648 ≤ a ∧ a ≤ 2147483647 := ⟨h.2.2.1, h.2.2.2, h.1, h.2.1⟩
  have e4 := ax_i_lt h'
  have e5 := ax_i_le h'
  refine lv_icmp_ge B.1 B.2.1 hd ht (fun q => ?_) (fun q => ?_)
  · refine kt ?_ hG H locs ls hP hS hl hn
    simp only [gt_iff_lt, ge_iff_le, ne_eq, e1, e2, e3, e4, e5] at q
    omega
  · refine kf ?_ hG H locs ls hP hS hl hn
    simp only [gt_iff_lt, ge_iff_le, ne_eq, e1, e2, e3, e4, e5] at q
    omega
theorem rr_if_ge {a off : Int} (tgt : Nat) (B : ax_b X cc own n) (hd : decode cc pc = .ok (.ifCond .ge off, 3)) (ht : (pc : Int) + off = (tgt : Int)) (h : -2147483648 ≤ a ∧ a ≤ 2147483647) (kt : 0 ≤ a → AW X tgt lv rest M) (kf : a < 0 → AW X (pc + 3) lv rest M) : AW X pc lv (aI a :: rest) M := by
  intro hG H locs ls hP hS hl hn
  have h1 : -2147483648 ≤ a ∧ a ≤ 2147483647 ∧ -2147483648 ≤ (0 : Int) ∧ (0 : Int) ≤ 2147483647 := by omega
  have h2 : -2147483648 ≤ (0 : Int) ∧ (0 : Int) ≤ 2147483647 ∧ -2147483648 ≤ a ∧ a ≤ 2147483647 := by omega
  have e1 := ax_i_eq h1
  have e2 := ax_i_lt h1
  have e3 := ax_i_le h1
  have e4 := ax_i_lt h2
  have e5 := ax_i_le h2
  rw [ax_i_0] at e1 e2 e3 e4 e5
  refine lv_if_ge B.1 B.2.1 hd ht (fun q => ?_) (fun q => ?_)
  · refine kt ?_ hG H locs ls hP hS hl hn
    simp only [gt_iff_lt, ge_iff_le, ne_eq, e1, e2, e3, e4, e5] at q
    omega
  · refine kf ?_ hG H locs ls hP hS hl hn
    simp only [gt_iff_lt, ge_iff_le, ne_eq, e1, e2, e3, e4, e5] at q
    omega
theorem rr_lcmp_ge {a b off : Int} (tgt : Nat) (B : ax_b X cc own n) (hd : decode cc pc = .ok (.lcmp, 1)) (hd2 : decode cc (pc + 1) = .ok (.ifCond .ge off, 3)) (ht : ((pc + 1 : Nat) : Int) + off = (tgt : Int)) (h : -9223372036854775808 ≤ a ∧ a ≤ 9223372036854775807 ∧ -9223372036854775808 ≤ b ∧ b ≤ 9223372036854775807) (kt : b ≤ a → AW X tgt lv rest M) (kf : a < b → AW X (pc + 1 + 3) lv rest M) : AW X pc lv (aL b :: aL a :: rest) M := by
  intro hG H locs ls hP hS hl hn
  have ea := ax_l_of (z := a) ⟨h.1, h.2.1⟩
  have eb := ax_l_of (z := b) h.2.2
  refine W.lcmp B.1 B.2.1 hd ?_
  refine lv_if_ge B.1 B.2.1 hd2 ht (fun q => ?_) (fun q => ?_)
  · refine kt ?_ hG H locs ls hP hS hl hn
    simp only [gt_iff_lt, ge_iff_le, ne_eq, lg_cmp_ge, lg_cmp_le, lg_cmp_gt, lg_cmp_lt, lg_cmp_eq, Int64.lt_iff_toInt_lt, Int64.le_iff_toInt_le, ← Int64.toInt_inj, ea, eb] at q
    omega
  · refine kf ?_ hG H locs ls hP hS hl hn
    simp only [gt_iff_lt, ge_iff_le, ne_eq, lg_cmp_ge, lg_cmp_le, lg_cmp_gt, lg_cmp_lt, lg_cmp_eq, Int64.lt_iff_toInt_lt, Int64.le_iff_toInt_le, ← Int64.toInt_inj, ea, eb] at q
    omega
theorem rr_icmp_gt {a b off : Int} (tgt : Nat) (B : ax_b X cc own n) (hd : decode cc pc = .ok (.if_icmp .gt off, 3)) (ht : (pc : Int) + off = (tgt : Int)) (h : -2147483648 ≤ a ∧ a ≤ 2147483647 ∧ -2147483648 ≤ b ∧ b ≤ 2147483647) (kt : b < a → AW X tgt lv rest M) (kf : a ≤ b → AW X (pc + 3) lv rest M) : AW X pc lv (aI b :: aI a :: rest) M := by
  intro hG H locs ls hP hS hl hn
  have e1 := ax_i_eq h
  have e2 := ax_i_lt h
  have e3 := ax_i_le h
  have h' : -2147483648 ≤ b ∧ b ≤ 2147483647 ∧ -2147483648 ≤ a ∧ a ≤ 2147483647 := ⟨h.2.2.1, h.2.2.2, h.1, h.2.1⟩
  have e4 := ax_i_lt h'
  have e5 := ax_i_le h'
  refine lv_icmp_gt B.1 B.2.1 hd ht (fun q => ?_) (fun q => ?_)
  · refine kt ?_ hG H locs ls hP hS hl hn
    simp only [gt_iff_lt, ge_iff_le, ne_eq, e1, e2, e3, e4, e5] at q
    omega
  · refine kf ?_ hG H locs ls hP hS hl hn
    simp only [gt_iff_lt, ge_iff_le, ne_eq, e1, e2, e3, e4, e5] at q
    omega
theorem rr_if_gt {a off : Int} (tgt : Nat) (B : ax_b X cc own n) (hd : decode cc pc = .ok (.ifCond .gt off, 3)) (ht : (pc : Int) + off = (tgt : Int)) (h : -2147483648 ≤ a ∧ a ≤ 2147483647) (kt : 0 < a → AW X tgt lv rest M) (kf : a ≤ 0 → AW X (pc + 3) lv rest M) : AW X pc lv (aI a :: rest) M := by
  intro hG H locs ls hP hS hl hn
  have h1 : -2147483648 ≤ a ∧ a ≤ 2147483647 ∧ -2147483648 ≤ (0 : Int) ∧ (0 : Int) ≤ 2147483647 := by omega
  have h2 : -2147483648 ≤ (0 : Int) ∧ (0 : Int) ≤ 2147483647 ∧ -2147483648 ≤ a ∧ a ≤ 2147483647 := by omega
  have e1 := ax_i_eq h1
  have e2 := ax_i_lt h1
  have e3 := ax_i_le h1
  have e4 := ax_i_lt h2
  have e5 := ax_i_le h2
  rw [ax_i_0] at e1 e2 e3 e4 e5
  refine lv_if_gt B.1 B.2.1 hd ht (fun q => ?_) (fun q => ?_)
  · refine kt ?_ hG H locs ls hP hS hl hn
    simp only [gt_iff_lt, ge_iff_le, ne_eq, e1, e2, e3, e4, e5] at q
    omega
  · refine kf ?_ hG H locs ls hP hS hl hn
    simp only [gt_iff_lt, ge_iff_le, ne_eq, e1, e2, e3, e4, e5] at q
    omega
theorem rr_lcmp_gt {a b off : Int} (tgt : Nat) (B : ax_b X cc own n) (hd : decode cc pc = .ok (.lcmp, 1)) (hd2 : decode cc (pc + 1) = .ok (.ifCond .gt off, 3)) (ht : ((pc + 1 : Nat) : Int) + off = (tgt : Int)) (h : -9223372036854775808 ≤ a ∧ a ≤ 9223372036854775807 ∧ -9223372036854775808 ≤ b ∧ b ≤ 9223372036854775807) (kt : b < a → AW X tgt lv rest M) (kf : a ≤ b → AW X (pc + 1 + 3) lv rest M) : AW X pc lv (aL b :: aL a :: rest) M := by
  intro hG H locs ls hP hS hl hn
  have ea := ax_l_of (z := a) ⟨h.1, h.2.1⟩
  have eb := ax_l_of (z := b) h.2.2
  refine W.lcmp B.1 B.2.1 hd ?_
  refine lv_if_gt B.1 B.2.1 hd2 ht (fun q => ?_) (fun q => ?_)
  · refine kt ?_ hG H locs ls hP hS hl hn
    simp only [gt_iff_lt, ge_iff_le, ne_eq, lg_cmp_ge, lg_cmp_le, lg_cmp_gt, lg_cmp_lt, lg_cmp_eq, Int64.lt_iff_toInt_lt, Int64.le_iff_toInt_le, ← Int64.toInt_inj, ea, eb] at q
    omega
  · refine kf ?_ hG H locs ls hP hS hl hn
    simp only [gt_iff_lt, ge_iff_le, ne_eq, lg_cmp_ge, lg_cmp_le, lg_cmp_gt, lg_cmp_lt, lg_cmp_eq, Int64.lt_iff_toInt_lt, Int64.le_iff_toInt_le, ← Int64.toInt_inj, ea, eb] at q
    omega
theorem rr_icmp_le {a b off : Int} (tgt : Nat) (B : ax_b X cc own n) (hd : decode cc pc = .ok (.if_icmp .le off, 3)) (ht : (pc : Int) + off = (tgt : Int)) (h : -2147483648 ≤ a ∧ a ≤ 2147483647 ∧ -2147483648 ≤ b ∧ b ≤ 2147483647) (kt : a ≤ b → AW X tgt lv rest M) (kf : b < a → AW X (pc + 3) lv rest M) : AW X pc lv (aI b :: aI a :: rest) M := by
  intro hG H locs ls hP hS hl hn
  have e1 := ax_i_eq h
  have e2 := ax_i_lt h
  have e3 := ax_i_le h
  have h' : -2147483648 ≤ b ∧ b ≤ 2147483647 ∧ -2147483648 ≤ a ∧ a ≤ 2147483647 := ⟨h.2.2.1, h.2.2.2, h.1, h.2.1⟩
  have e4 := ax_i_lt h'
  have e5 := ax_i_le h'
  refine lv_icmp_le B.1 B.2.1 hd ht (fun q => ?_) (fun q => ?_)
  · refine kt ?_ hG H locs ls hP hS hl hn
    simp only [gt_iff_lt, ge_iff_le, ne_eq, e1, e2, e3, e4, e5] at q
    omega
  · refine kf ?_ hG H locs ls hP hS hl hn
    simp only [gt_iff_lt, ge_iff_le, ne_eq, e1, e2, e3, e4, e5] at q
    omega
theorem rr_if_le {a off : Int} (tgt : Nat) (B : ax_b X cc own n) (hd : decode cc pc = .ok (.ifCond .le off, 3)) (ht : (pc : Int) + off = (tgt : Int)) (h : -2147483648 ≤ a ∧ a ≤ 2147483647) (kt : a ≤ 0 → AW X tgt lv rest M) (kf : 0 < a → AW X (pc + 3) lv rest M) : AW X pc lv (aI a :: rest) M := by
  intro hG H locs ls hP hS hl hn
  have h1 : -2147483648 ≤ a ∧ a ≤ 2147483647 ∧ -2147483648 ≤ (0 : Int) ∧ (0 : Int) ≤ 2147483647 := by omega
  have h2 : -2147483648 ≤ (0 : Int) ∧ (0 : Int) ≤ 2147483647 ∧ -2147483648 ≤ a ∧ a ≤ 2147483647 := by omega
  have e1 := ax_i_eq h1
  have e2 := ax_i_lt h1
  have e3 := ax_i_le h1
  have e4 := ax_i_lt h2
  have e5 := ax_i_le h2
  rw [ax_i_0] at e1 e2 e3 e4 e5
  refine lv_if_le B.1 B.2.1 hd ht (fun q => ?_) (fun q => ?_)
  · refine kt ?_ hG H locs ls hP hS hl hn
    simp only [gt_iff_lt, ge_iff_le, ne_eq, e1, e2, e3, e4, e5] at q
    omega
  · refine kf ?_ hG H locs ls hP hS hl hn
    simp only [gt_iff_lt, ge_iff_le, ne_eq, e1, e2, e3, e4, e5] at q
    omega
theorem rr_lcmp_le {a b off : Int} (tgt : Nat) (B : ax_b X cc own n) (hd : decode cc pc = .ok (.lcmp, 1)) (hd2 : decode cc (pc + 1) = .ok (.ifCond .le off, 3)) (ht : ((pc + 1 : Nat) : Int) + off = (tgt : Int)) (h : -9223372036854775808 ≤ a ∧ a ≤ 9223372036854775807 ∧ -9223372036854775808 ≤ b ∧ b ≤ 9223372036854775807) (kt : a ≤ b → AW X tgt lv rest M) (kf : b < a → AW X (pc + 1 + 3) lv rest M) : AW X pc lv (aL b :: aL a :: rest) M := by
  intro hG H locs ls hP hS hl hn
  have ea := ax_l_of (z := a) ⟨h.1, h.2.1⟩
  have eb := ax_l_of (z := b) h.2.2
  refine W.lcmp B.1 B.2.1 hd ?_
  refine lv_if_le B.1 B.2.1 hd2 ht (fun q => ?_) (fun q => ?_)
  · refine kt ?_ hG H locs ls hP hS hl hn
    simp only [gt_iff_lt, ge_iff_le, ne_eq, lg_cmp_ge, lg_cmp_le, lg_cmp_gt, lg_cmp_lt, lg_cmp_eq, Int64.lt_iff_toInt_lt, Int64.le_iff_toInt_le, ← Int64.toInt_inj, ea, eb] at q
    omega
  · refine kf ?_ hG H locs ls hP hS hl hn
    simp only [gt_iff_lt, ge_iff_le, ne_eq, lg_cmp_ge, lg_cmp_le, lg_cmp_gt, lg_cmp_lt, lg_cmp_eq, Int64.lt_iff_toInt_lt, Int64.le_iff_toInt_le, ← Int64.toInt_inj, ea, eb] at q
    omega
theorem rr_if_eqB {b : Bool} {off : Int} (tgt : Nat) (B : ax_b X cc own n) (hd : decode cc pc = .ok (.ifCond .eq off, 3)) (ht : (pc : Int) + off = (tgt : Int)) (kt : b = false → AW X tgt lv rest M) (kf : b = true → AW X (pc + 3) lv rest M) : AW X pc lv (aI (bi b) :: rest) M :=
  rr_if_eq tgt B hd ht (by cases b <;> decide) (fun q => kt (by cases b <;> first | rfl | exact absurd q (by decide))) (fun q => kf (by cases b <;> first | rfl | exact absurd rfl q))
theorem rr_if_neB {b : Bool} {off : Int} (tgt : Nat) (B : ax_b X cc own n) (hd : decode cc pc = .ok (.ifCond .ne off, 3)) (ht : (pc : Int) + off = (tgt : Int)) (kt : b = true → AW X tgt lv rest M) (kf : b = false → AW X (pc + 3) lv rest M) : AW X pc lv (aI (bi b) :: rest) M :=
  rr_if_ne tgt B hd ht (by cases b <;> decide) (fun q => kt (by cases b <;> first | rfl | exact absurd rfl q)) (fun q => kf (by cases b <;> first | rfl | exact absurd q (by decide)))
/-! fields -/
/-- field j of the one object of class ci, by pool entry idx of class own -/
def ax_fl (own : String) (idx ci j : Nat) : Prop := ∃ (C : String) (T : u_T) (N : Nat) (ty : Nat → FieldType), (∀ w ∈ u_ws C T N, w ∈ ax_big) ∧ vwCl[ci]? = some (C, T, N) ∧ j < N ∧ Cond.fieldLink own idx (T j).1 (T j).2.1 (T j).2.2.1 ∈ ax_big ∧ (∀ k, k < N → parseFieldDescriptor (T k).2.2.1 = some (ty k)) ∧ (∀ a, a < N → ∀ b, b < N → a ≠ b → (T a).2.1 ≠ (T b).2.1) ∧ ((T j).2.2.2 = false → (parseFieldDescriptor (T j).2.2.1 = some .int ∨ parseFieldDescriptor (T j).2.2.1 = some .boolean))
theorem ax_obj {g : ax_G} {M : ax_M} {k ci : Nat} {fs : List (Option Nat)} (hs : ax_shp k = (4, ci, fs)) : (wd g M)[k]? = some (g.ad k, .inr (ci, fs.zipIdx.map (ax_fld g M k))) := by
  rw [wd_at (ax_shp_lt hs (by decide))]
  unfold ax_cell
  rw [hs]
  rfl
theorem ax_fld_at {g : ax_G} {M : ax_M} {k j : Nat} {fs : List (Option Nat)} {f : Option Nat} (h : fs[j]? = some f) : (fs.zipIdx.map (ax_fld g M k))[j]? = some (ax_fld g M k (f, j)) := by
  rw [List.getElem?_map, List.getElem?_zipIdx, h]
  simp
theorem rr_getI {idx ci j k : Nat} {z lo up : Int} (B : ax_b X cc own n) (hd : decode cc pc = .ok (.getfield idx, 3)) (hf : ax_fl own idx ci j) (ho : ax_ob k ci j z lo up) (kk : lo ≤ M k z ∧ M k z ≤ up → AW X (pc + 3) lv (aI (M k z) :: rest) M) : AW X pc lv (aR k :: rest) M := by
  intro hG H locs ls hP hS hl hn
  obtain ⟨⟨fs, hs, hj⟩, hbd, rfl⟩ := ho
  obtain ⟨C, T, N, ty, h1, h2, h3, h4, -, -, -⟩ := hf
  exact va_get (D := X.g.D) (ci := ci) (v := .int (ax_i (M k j))) B.1 B.2.1 B.2.2.2.2.1 h1 B.2.2.2.1 B.2.2.2.2.2.1.1 hP k (ax_obj hs) h2 j h3 (B.2.2.2.2.1 _ h4) (fun _ h => h) (ax_fld_at hj) hd (kk (hG.at hbd) hG H locs ls hP hS hl hn)
theorem rr_getR {idx ci j k k2 : Nat} (B : ax_b X cc own n) (hd : decode cc pc = .ok (.getfield idx, 3)) (hf : ax_fl own idx ci j) (ho : ax_or1 k ci j k2) (kk : AW X (pc + 3) lv (aR k2 :: rest) M) : AW X pc lv (aR k :: rest) M := by
  intro hG H locs ls hP hS hl hn
  obtain ⟨fs, hs, hj⟩ := ho
  obtain ⟨C, T, N, ty, h1, h2, h3, h4, -, -, -⟩ := hf
  exact va_get (D := X.g.D) (ci := ci) (v := .ref (X.g.ad k2)) B.1 B.2.1 B.2.2.2.2.1 h1 B.2.2.2.1 B.2.2.2.2.2.1.1 hP k (ax_obj hs) h2 j h3 (B.2.2.2.2.1 _ h4) (fun _ h => h) (ax_fld_at hj) hd (kk hG H locs ls hP hS hl hn)
theorem ax_obj_set {g : ax_G} {M : ax_M} {k j : Nat} {v : Int} {fs : List (Option Nat)} {ci : Nat} (hs : ax_shp k = (4, ci, fs)) (hj : fs[j]? = some none) : (wd g M).set k (g.ad k, .inr (ci, (fs.zipIdx.map (ax_fld g M k)).set j (.int (ax_i v)))) = wd g (ms M k j v) := by
  refine wd_set (fun i hi => ax_cell_off (ms_ne hi)) ?_
  unfold ax_cell
  rw [hs]
  show (Sum.inr _ : va_E) = _
  congr 2
  apply List.ext_getElem?
  intro i
  have hl : j < fs.length := (List.getElem?_eq_some_iff.mp hj).1
  by_cases hi : i = j
  · subst hi
    rw [List.getElem?_set_self (by simpa using hl), ax_fld_at hj]
    simp [ax_fld, ms]
  · rw [List.getElem?_set_ne (Ne.symm hi)]
    cases hf : fs[i]? with
    | none =>
      rw [List.getElem?_map, List.getElem?_map, List.getElem?_zipIdx, hf]
      rfl
    | some f =>
      rw [ax_fld_at hf, ax_fld_at hf]
      cases f with
      | none =>
        have : (i : Int) ≠ j := by omega
        simp [ax_fld, ms, this]
      | some k2 => rfl
theorem rr_put {idx ci j k : Nat} {v z lo up : Int} (B : ax_b X cc own n) (hd : decode cc pc = .ok (.putfield idx, 3)) (hf : ax_fl own idx ci j) (ho : ax_ob k ci j z lo up) (hw : lo ≤ v ∧ v ≤ up) (hfin : ∀ T : u_T, ∀ C N, vwCl[ci]? = some (C, T, N) → (T j).2.2.2 = false ∧ (parseFieldDescriptor (T j).2.2.1 = some .int ∨ v = 0 ∨ v = 1)) (kk : AW X (pc + 3) lv rest (ms M k z v)) : AW X pc lv (aI v :: aR k :: rest) M := by
  intro hG H locs ls hP hS hl hn
  obtain ⟨⟨fs, hs, hj⟩, hbd, rfl⟩ := ho
  obtain ⟨C, T, N, ty, h1, h2, h3, h4, h5, h6, h7⟩ := hf
  obtain ⟨f1, f2⟩ := hfin T C N h2
  have hlen : j < (fs.zipIdx.map (ax_fld X.g M k)).length := by
    have := (List.getElem?_eq_some_iff.mp hj).1
    simpa using this
  have hty : ∃ t, parseFieldDescriptor (T j).2.2.1 = some t ∧ narrow t (.int (ax_i v)) = .int (ax_i v) ∧ fits t (.int (ax_i v)) = true := by
    rcases h7 f1 with h | h
    · exact ⟨_, h, rfl, rfl⟩
    · rcases f2 with h' | rfl | rfl
      · exact ⟨_, h', rfl, rfl⟩
      · exact ⟨_, h, by decide, by decide⟩
      · exact ⟨_, h, by decide, by decide⟩
  obtain ⟨t, ht, hn1, hf1⟩ := hty
  refine va_put (D := X.g.D) (ci := ci) (v := .int (ax_i v)) (ty := t) B.1 B.2.1 B.2.2.2.2.1 h1 ty h5 h6 B.2.2.2.1 B.2.2.2.2.2.1.1 hP (ax_vaD B.2.2.2.2.2.2.2.1) hS k (ax_obj hs) h2 j h3 (B.2.2.2.2.1 _ h4) (fun _ h => h) f1 ht hn1 hf1 hlen hd (fun H1 locs1 hP1 hD1 hS1 => ?_)
  rw [ax_obj_set hs hj] at hP1
  exact kk (hG.ms hbd hw) H1 locs1 ls hP1 hS1 hl hn
theorem rr_putI {idx ci j k : Nat} {v z lo up : Int} (B : ax_b X cc own n) (hd : decode cc pc = .ok (.putfield idx, 3)) (hf : ax_fl own idx ci j) (ho : ax_ob k ci j z lo up) (hi : ax_fi ci j) (hw : lo ≤ v ∧ v ≤ up) (kk : AW X (pc + 3) lv rest (ms M k z v)) : AW X pc lv (aI v :: aR k :: rest) M := rr_put B hd hf ho hw (fun T C N h => ⟨(hi T C N h).1, Or.inl (hi T C N h).2⟩) kk
theorem rr_putZ {idx ci j k : Nat} {v z lo up : Int} (B : ax_b X cc own n) (hd : decode cc pc = .ok (.putfield idx, 3)) (hf : ax_fl own idx ci j) (ho : ax_ob k ci j z lo up) (hi : ax_fz ci j) (hw : lo ≤ v ∧ v ≤ up) (hv : v = 0 ∨ v = 1) (kk : AW X (pc + 3) lv rest (ms M k z v)) : AW X pc lv (aI v :: aR k :: rest) M := rr_put B hd hf ho hw (fun T C N h => ⟨(hi T C N h).1, Or.inr hv⟩) kk
/-! arrays -/
theorem ax_arrI {g : ax_G} {M : ax_M} {k N : Nat} {x : List (Option Nat)} (hs : ax_shp k = (0, N, x)) : (wd g M)[k]? = some (g.ad k, .inl (g.cI, N, .inl fun j => ax_i (M k j))) := by
  rw [wd_at (ax_shp_lt hs (by decide))]; unfold ax_cell; rw [hs]; rfl
theorem ax_arrZ {g : ax_G} {M : ax_M} {k N : Nat} {x : List (Option Nat)} (hs : ax_shp k = (1, N, x)) : (wd g M)[k]? = some (g.ad k, .inl (g.cZ, N, .inl fun j => ax_i (M k j))) := by
  rw [wd_at (ax_shp_lt hs (by decide))]; unfold ax_cell; rw [hs]; rfl
theorem ax_arrJ {g : ax_G} {M : ax_M} {k N : Nat} {x : List (Option Nat)} (hs : ax_shp k = (2, N, x)) : (wd g M)[k]? = some (g.ad k, .inl (g.cJ, N, .inr (.inl fun j => ax_l (M k j)))) := by
  rw [wd_at (ax_shp_lt hs (by decide))]; unfold ax_cell; rw [hs]; rfl
theorem ax_arrR {g : ax_G} {M : ax_M} {k N : Nat} {x : List (Option Nat)} (hs : ax_shp k = (3, N, x)) : (wd g M)[k]? = some (g.ad k, .inl (g.cR, N, .inr (.inr (.inr (.inr fun j => ((x[j]?).getD none).map g.ad))))) := by
  rw [wd_at (ax_shp_lt hs (by decide))]; unfold ax_cell; rw [hs]; rfl
theorem ax_upd {M : ax_M} {k : Nat} {i v : Int} (h0 : 0 ≤ i) : (fun j : Nat => ax_i (ms M k i v k j)) = upd (fun j : Nat => ax_i (M k j)) i.toNat (ax_i v) := by
  funext j
  by_cases h : j = i.toNat
  · have : (j : Int) = i := by omega
    simp only [upd, ms, this, if_pos h, true_and, if_true]
  · have : (j : Int) ≠ i := by omega
    simp [upd, ms, h, this]
theorem ax_updL {M : ax_M} {k : Nat} {i v : Int} (h0 : 0 ≤ i) : (fun j : Nat => ax_l (ms M k i v k j)) = vp_updL (fun j : Nat => ax_l (M k j)) i.toNat (ax_l v) := by
  funext j
  by_cases h : j = i.toNat
  · have : (j : Int) = i := by omega
    simp only [vp_updL, ms, this, if_pos h, true_and, if_true]
  · have : (j : Int) ≠ i := by omega
    simp [vp_updL, ms, h, this]
theorem rr_iaload {k N : Nat} {i lo up : Int} (B : ax_b X cc own n) (hd : decode cc pc = .ok (.iaload, 1)) (ha : ax_arr 0 k N lo up) (hi : 0 ≤ i ∧ i < N) (kk : lo ≤ M k i ∧ M k i ≤ up → AW X (pc + 1) lv (aI (M k i) :: rest) M) : AW X pc lv (aI i :: aR k :: rest) M := by
  intro hG H locs ls hP hS hl hn
  obtain ⟨⟨x, hs⟩, hN, hbd⟩ := ha
  obtain ⟨h1, h2, h3⟩ := ax_nat hi.1 hi.2 hN
  refine va_iald B.1 B.2.1 B.2.2.2.2.2.1.1 hP k 0 (ax_arrI hs) rfl h1 hd ?_
  rw [h3]
  exact kk (hG.at (hbd i)) hG H locs ls hP hS hl hn
theorem rr_zaload {k N : Nat} {i lo up : Int} (B : ax_b X cc own n) (hd : decode cc pc = .ok (.baload, 1)) (ha : ax_arr 1 k N lo up) (hi : 0 ≤ i ∧ i < N) (kk : lo ≤ M k i ∧ M k i ≤ up → AW X (pc + 1) lv (aI (M k i) :: rest) M) : AW X pc lv (aI i :: aR k :: rest) M := by
  intro hG H locs ls hP hS hl hn
  obtain ⟨⟨x, hs⟩, hN, hbd⟩ := ha
  obtain ⟨h1, h2, h3⟩ := ax_nat hi.1 hi.2 hN
  refine va_zald B.1 B.2.1 B.2.2.2.2.2.1.1 hP k 1 (ax_arrZ hs) rfl h1 hd ?_
  rw [h3]
  exact kk (hG.at (hbd i)) hG H locs ls hP hS hl hn
theorem rr_laload {k N : Nat} {i lo up : Int} (B : ax_b X cc own n) (hd : decode cc pc = .ok (.laload, 1)) (ha : ax_arr 2 k N lo up) (hi : 0 ≤ i ∧ i < N) (kk : lo ≤ M k i ∧ M k i ≤ up → AW X (pc + 1) lv (aL (M k i) :: rest) M) : AW X pc lv (aI i :: aR k :: rest) M := by
  intro hG H locs ls hP hS hl hn
  obtain ⟨⟨x, hs⟩, hN, hbd⟩ := ha
  obtain ⟨h1, h2, h3⟩ := ax_nat hi.1 hi.2 hN
  refine va_lald B.1 B.2.1 B.2.2.2.2.2.1.1 hP k 2 (ax_arrJ hs) rfl h1 hd ?_
  rw [h3]
  exact kk (hG.at (hbd i)) hG H locs ls hP hS hl hn
theorem rr_iastore {k N : Nat} {i v lo up : Int} (B : ax_b X cc own n) (hd : decode cc pc = .ok (.iastore, 1)) (ha : ax_arr 0 k N lo up) (hi : 0 ≤ i ∧ i < N) (hw : lo ≤ v ∧ v ≤ up) (kk : AW X (pc + 1) lv rest (ms M k i v)) : AW X pc lv (aI v :: aI i :: aR k :: rest) M := by
  intro hG H locs ls hP hS hl hn
  obtain ⟨⟨x, hs⟩, hN, hbd⟩ := ha
  obtain ⟨h1, h2, h3⟩ := ax_nat hi.1 hi.2 hN
  refine va_iast B.1 B.2.1 B.2.2.2.2.2.1.1 hP (ax_vaD B.2.2.2.2.2.2.2.1) hS k 0 (ax_arrI hs) rfl h1 hd (fun H1 locs1 hP1 hD1 hS1 => ?_)
  rw [h2, ← ax_upd hi.1, wd_set (M' := ms M k i v) (fun j hj => ax_cell_off (ms_ne hj)) (by unfold ax_cell; rw [hs]; rfl)] at hP1
  exact kk (hG.ms (hbd i) hw) H1 locs1 ls hP1 hS1 hl hn
theorem rr_lastore {k N : Nat} {i v lo up : Int} (B : ax_b X cc own n) (hd : decode cc pc = .ok (.lastore, 1)) (ha : ax_arr 2 k N lo up) (hi : 0 ≤ i ∧ i < N) (hw : lo ≤ v ∧ v ≤ up) (kk : AW X (pc + 1) lv rest (ms M k i v)) : AW X pc lv (aL v :: aI i :: aR k :: rest) M := by
  intro hG H locs ls hP hS hl hn
  obtain ⟨⟨x, hs⟩, hN, hbd⟩ := ha
  obtain ⟨h1, h2, h3⟩ := ax_nat hi.1 hi.2 hN
  refine va_last B.1 B.2.1 B.2.2.2.2.2.1.1 hP (ax_vaD B.2.2.2.2.2.2.2.1) hS k 2 (ax_arrJ hs) rfl h1 hd (fun H1 locs1 hP1 hD1 hS1 => ?_)
  rw [h2, ← ax_updL hi.1, wd_set (M' := ms M k i v) (fun j hj => ax_cell_off (ms_ne hj)) (by unfold ax_cell; rw [hs]; rfl)] at hP1
  exact kk (hG.ms (hbd i) hw) H1 locs1 ls hP1 hS1 hl hn
theorem rr_zastore {k N : Nat} {i v lo up : Int} (B : ax_b X cc own n) (hd : decode cc pc = .ok (.bastore, 1)) (ha : ax_arr 1 k N lo up) (hi : 0 ≤ i ∧ i < N) (hw : lo ≤ v ∧ v ≤ up) (hv : v = 0 ∨ v = 1) (kk : AW X (pc + 1) lv rest (ms M k i v)) : AW X pc lv (aI v :: aI i :: aR k :: rest) M := by
  intro hG H locs ls hP hS hl hn
  obtain ⟨⟨x, hs⟩, hN, hbd⟩ := ha
  obtain ⟨h1, h2, h3⟩ := ax_nat hi.1 hi.2 hN
  have hb : vp_nar .boolean (ax_i v) = ax_i v := by rcases hv with rfl | rfl <;> decide
  refine va_zast B.1 B.2.1 B.2.2.2.2.2.1.1 hP (ax_vaD B.2.2.2.2.2.2.2.1) hS k 1 (ax_arrZ hs) rfl h1 hd (fun H1 locs1 hP1 hD1 hS1 => ?_)
  rw [hb, h2, ← ax_upd hi.1, wd_set (M' := ms M k i v) (fun j hj => ax_cell_off (ms_ne hj)) (by unfold ax_cell; rw [hs]; rfl)] at hP1
  exact kk (hG.ms (hbd i) hw) H1 locs1 ls hP1 hS1 hl hn
theorem rr_aaload {k N k2 : Nat} {x : List (Option Nat)} {i : Int} (B : ax_b X cc own n) (hd : decode cc pc = .ok (.aaload, 1)) (hs : ax_shp k = (3, N, x)) (hN : N ≤ 2147483647) (hi : 0 ≤ i ∧ i < N) (hx : x[i.toNat]? = some (some k2)) (kk : AW X (pc + 1) lv (aR k2 :: rest) M) : AW X pc lv (aI i :: aR k :: rest) M := by
  intro hG H locs ls hP hS hl hn
  obtain ⟨h1, h2, h3⟩ := ax_nat hi.1 hi.2 hN
  have hlt : (ax_i i).toNatClampNeg < N := Nat.not_le.mp fun q => h1 (Or.inr q)
  refine W.aald (v := .ref (X.g.ad k2)) (ty := .array .int) B.1 B.2.1 (hP k _ (ax_arrR hs)) ((B.2.2.2.2.2.1.1.2 3 _ rfl).1 N (fun j => va_rf (((x[j]?).getD none).map X.g.ad))) rfl (fun q => by cases q) (by show ¬ (ax_i i < 0 ∨ (arrV _ _ _).slots.size ≤ _); rw [arrV_size]; exact h1) ?_ rfl rfl hd (kk hG H locs ls hP hS hl hn)
  show (arrV _ _ _).slots[_]? = _
  rw [arrV_read _ _ hlt, h2]
  show some (va_rf (Option.map X.g.ad ((x[i.toNat]?).getD none))) = _
  rw [hx]
  rfl
/-! statics -/
theorem rr_gets {C nm ds : String} {idx k N : Nat} {ty : FieldType} {f : Nat → Value} (B : ax_b X cc own n) (hd : decode cc pc = .ok (.getstatic idx, 3)) (hZ : ax_S1 X.g C nm ds k ty N f X.s X.s.heap) (hw : Cond.fieldLink own idx C nm ds ∈ ax_big) (kk : AW X (pc + 3) lv (aR k :: rest) M) : AW X pc lv rest M := fun hG H locs ls hP hS hl hn => va_gets B.1 B.2.1 hZ.1 hS B.2.2.2.1 (B.2.2.2.2.1 _ hw) (fun _ h => h) hd (kk hG H locs ls hP hS hl hn)
theorem rr_ti {C nm ds : String} {k N : Nat} {f : Nat → Int} {i : Int} (B : ax_b X cc own n) (hd : decode cc pc = .ok (.iaload, 1)) (hZ : ax_S1 X.g C nm ds k .int N (fun j => .int (ax_i (f j))) X.s X.s.heap) (hN : N ≤ 2147483647) (hi : 0 ≤ i ∧ i < N) (kk : AW X (pc + 1) lv (aI (f i.toNat) :: rest) M) : AW X pc lv (aI i :: aR k :: rest) M := by
  intro hG H locs ls hP hS hl hn
  obtain ⟨h1, h2, h3⟩ := ax_nat hi.1 hi.2 hN
  refine va_ti B.1 B.2.1 hZ.2 hS h1 rfl hd ?_
  rw [h2]
  exact kk hG H locs ls hP hS hl hn
theorem rr_tl {C nm ds : String} {k N : Nat} {f : Nat → Int} {i : Int} (B : ax_b X cc own n) (hd : decode cc pc = .ok (.laload, 1)) (hZ : ax_S1 X.g C nm ds k .long N (fun j => .long (ax_l (f j))) X.s X.s.heap) (hN : N ≤ 2147483647) (hi : 0 ≤ i ∧ i < N) (kk : AW X (pc + 1) lv (aL (f i.toNat) :: rest) M) : AW X pc lv (aI i :: aR k :: rest) M := by
  intro hG H locs ls hP hS hl hn
  obtain ⟨h1, h2, h3⟩ := ax_nat hi.1 hi.2 hN
  refine va_tl B.1 B.2.1 hZ.2 hS h1 rfl hd ?_
  rw [h2]
  exact kk hG H locs ls hP hS hl hn
/-! answers -/
theorem rr_ireturn {v : Int} {P : Option ax_V → ax_M → Prop} (B : ax_b X cc own n) (Br : ax_r X (some .int) P) (hd : decode cc pc = .ok (.ireturn, 1)) (h : P (some (aI v)) M) : AW X pc lv [aI v] M := by
  intro hG H locs ls hP hS hl hn
  have hlocks := B.2.2.2.2.2.2.2.2.1
  unfold ax_W
  rw [Br.2]
  exact W.iret B.1 B.2.1 Br.1 (fun t ht hW => ⟨⟨some (aI v), M, rfl, ⟨h, hG⟩, by rw [ht]; exact hP⟩, hS.F ht⟩) hS.2.2 hd
theorem rr_zreturn {v : Int} {P : Option ax_V → ax_M → Prop} (B : ax_b X cc own n) (Br : ax_r X (some .boolean) P) (hd : decode cc pc = .ok (.ireturn, 1)) (hv : v = 0 ∨ v = 1) (h : P (some (aI v)) M) : AW X pc lv [aI v] M := by
  intro hG H locs ls hP hS hl hn
  have hlocks := B.2.2.2.2.2.2.2.2.1
  unfold ax_W
  rw [Br.2]
  exact W.zret B.1 B.2.1 Br.1 (by rcases hv with rfl | rfl <;> decide) (fun t ht hW => ⟨⟨some (aI v), M, rfl, ⟨h, hG⟩, by rw [ht]; exact hP⟩, hS.F ht⟩) hS.2.2 hd
theorem rr_lreturn {v : Int} {P : Option ax_V → ax_M → Prop} (B : ax_b X cc own n) (Br : ax_r X (some .long) P) (hd : decode cc pc = .ok (.lreturn, 1)) (h : P (some (aL v)) M) : AW X pc lv [aL v] M := by
  intro hG H locs ls hP hS hl hn
  have hlocks := B.2.2.2.2.2.2.2.2.1
  unfold ax_W
  rw [Br.2]
  exact W.lret B.1 B.2.1 Br.1 (fun t ht hW => ⟨⟨some (aL v), M, rfl, ⟨h, hG⟩, by rw [ht]; exact hP⟩, hS.F ht⟩) hS.2.2 hd
theorem rr_return {P : Option ax_V → ax_M → Prop} (B : ax_b X cc own n) (Br : ax_r X none P) (hd : decode cc pc = .ok (.return_, 1)) (h : P none M) : AW X pc lv [] M := by
  intro hG H locs ls hP hS hl hn
  have hlocks := B.2.2.2.2.2.2.2.2.1
  unfold ax_W
  rw [Br.2]
  exact W.vret B.1 B.2.1 Br.1 (fun t ht hW => ⟨⟨none, M, rfl, ⟨h, hG⟩, by rw [ht]; exact hP⟩, hS.F ht⟩) hS.2.2 hd
/-- a memory that reads alike -/
theorem rr_mem {M' : ax_M} (h : M = M') (k : AW X pc lv st M') : AW X pc lv st M := h ▸ k
/-! calls -/
theorem ax_cont {H : Heap} {locs : List Loc} {ls : Array Slot} {st0 restv : List Value} {a : Array Value} {P : Option ax_V → ax_M → Prop} (hr : va_Run X.p X.g.l X.e X.R X.s X.m X.args X.below X.meth X.c H locs X.cells X.slots 0 0 (F0 X.m pc ls st0) restv (ax_PQ X.g P a) (ax_A X.g)) (hS : va_S (ax_A X.g) X.s.heap H locs)
    (kk : ∀ (r : Option ax_V) (M' : ax_M) (H1 : Heap) (locs1 : List Loc), P r M' → RG M' → va_P X.g.D vwCl (wd X.g M') H1 → va_S (ax_A X.g) X.s.heap H1 locs1 → ax_W X H1 locs1 (F0 X.m (pc + 3) ls ((r.map (cv X.g)).toList ++ restv))) : ax_W X H locs (F0 X.m pc ls st0) := by
  intro T hT Xs
  obtain ⟨v, st₀, t, T', L, h0, X', hL, e1, e2, ⟨⟨r, M', hv, ⟨hp, hg⟩, hb⟩, hz, hk⟩, stp⟩ := hr T hT Xs
  cases hv
  rw [h0] at hz hk
  obtain ⟨t2, a1, b1⟩ := kk r M' T'.heap (locs ++ L) hp hg (by rw [e1]; exact hb) ⟨Nat.le_trans hS.1 (by rw [e1]; exact hz), fun q h1 h2 => by rw [e1, hk q (Nat.lt_of_lt_of_le h1 hS.1) h2]; exact hS.2.1 q h1 h2, fun q hq => by
      rcases List.mem_append.mp hq with h | h
      · exact hS.2.2 q h
      · exact hL q h⟩ T' rfl X'
  exact ⟨t2, stp t2 a1, b1⟩
def ax_cok (md : ax_Md) (k : Nat) : Prop := Cond.code md.1 md.2.1 md.2.2.1 md.2.2.2 ∈ ax_big ∧ Cond.initialized md.1.cls ∈ ax_big ∧ (md.1.cls ≠ "java/lang/invoke/MethodHandle" ∧ md.1.cls ≠ "java/lang/invoke/VarHandle") ∧ (parseMethodDescriptor md.1.desc).map (fun d => d.parameters.length) = some k ∧ md.2.2.1 ≤ 11
def ax_vm (md : ax_Md) (k : Nat) : Prop := ax_cok md k ∧ Cond.instanceMethod md.1 ∈ ax_big ∧ Cond.selects md.1.cls md.1 md.1 ∈ ax_big
def ax_st (md : ax_Md) (k : Nat) : Prop := ax_cok md k ∧ Cond.static md.1 ∈ ax_big
def ax_rs (rest : List ax_V) : Nat := (rest.map (fun v => if ax_notL (some v) then 1 else 2)).sum
theorem ax_rs_cat (g : ax_G) : ∀ rest : List ax_V, ((rest.map (cv g)).map fun v => v.category).sum = ax_rs rest
  | [] => rfl
  | v :: r => by
    have := ax_rs_cat g r
    unfold ax_rs at this ⊢
    simp only [List.map_cons, List.sum_cons]
    rw [this]
    rcases v with z | z | z <;> rfl
theorem ax_pre {g : ax_G} {s : State} {H : Heap} {locs : List Loc} {As : List ax_V} (hP : va_P g.D vwCl (wd g M) H) (hS : va_S (ax_A g) s.heap H locs) (hK : ax_K g s) (hSt : ax_S g s s.heap) (hD : ax_D g) (hG : RG M) : FrameBlind (va_Pc (As.map (cv g)) (ax_Pre g M)) ∧ ∀ U : State, U.heap = H → s.WarmedH U.vm → va_Pc (As.map (cv g)) (ax_Pre g M) (As.map (cv g)).toArray U := by
  refine ⟨fun a U gg mk q => ?_, fun U hU hW => ⟨rfl, by rw [hU]; exact hP, ax_K.warm hW hK, ?_, hD, hG⟩⟩
  · obtain ⟨q0, q1, q2, q3, q4, q5⟩ := q
    exact ⟨q0, q1, ⟨va_K.moved (u := U) (U := U.calling gg mk a) (Vm.Alike.refl U.vm) q2.1, fun w hw => va_Nw.same (u := U) (U := U.calling gg mk a) (by
      have hn := (List.mem_filter.mp hw).2
      cases w <;> first | rfl | cases hn) rfl (q2.2 w hw)⟩, ax_S.to (s := U) (U := U.calling gg mk a) (Vm.Alike.refl U.vm) (fun _ _ _ => rfl) q3, q4, q5⟩
  · rw [hU]
    exact ax_S.to hW.alike (fun a h1 h2 => hS.2.1 a h1 h2) hSt
theorem ax_callB {md : ax_Md} {idx k d : Nat} (B : ax_b X cc own (d + 1)) (hv : ax_cok md k) (hl : Cond.methodLink own idx md.1 ∈ ax_big) : CallB X.R X.s X.args own idx md.1 md.2.1 md.2.2.1 md.2.2.2 (.code md.1 md.2.1 md.2.2.1 md.2.2.2 :: ax_big) (ax_rm d) 0 0 k := by
  obtain ⟨h1, h2, h3, h4, h5⟩ := hv
  have hr := B.2.2.2.2.2.2.2.2.2.1
  refine callB_of k B.2.2.2.2.1 (ax_good h1) rfl rfl rfl (B.2.2.2.2.1 _ h2) (B.2.2.2.2.1 _ hl) ⟨h3.1, h3.2, h4⟩ ⟨hr.1, ?_⟩
  show 8 + (md.2.2.1 + 11) + 30 * d ≤ X.R.locals
  omega
theorem ax_callN {md : ax_Md} {idx k d : Nat} {host : String} (B : ax_b X cc own (d + 1)) (hv : ax_cok md k) (hl : Cond.methodLinkNest own idx md.1 host ∈ ax_nw) : va_CN X.R X.s X.args own idx md.1 host md.2.1 md.2.2.1 md.2.2.2 (.code md.1 md.2.1 md.2.2.1 md.2.2.2 :: ax_big) (ax_rm d) 0 0 k := by
  obtain ⟨h1, h2, h3, h4, h5⟩ := hv
  have hr := B.2.2.2.2.2.2.2.2.2.1
  refine va_cnB k B.2.2.2.2.1 (ax_good h1) rfl rfl rfl (B.2.2.2.2.2.1.2 _ hl) (B.2.2.2.2.1 _ h2) ⟨h3.1, h3.2, h4⟩ ⟨hr.1, ?_⟩
  show 8 + (md.2.2.1 + 11) + 30 * d ≤ X.R.locals
  omega
theorem rr_callV {md : ax_Md} {idx k d o ci : Nat} {As : List ax_V} {fs : List (Option Nat)} {T : u_T} {N : Nat} {P : Option ax_V → ax_M → Prop} (B : ax_b X cc own (d + 1)) (hd : decode cc pc = .ok (.invokevirtual idx, 3)) (hv : ax_vm md k) (hl : Cond.methodLink own idx md.1 ∈ ax_big) (hs : ax_shp o = (4, ci, fs)) (hci : vwCl[ci]? = some (md.1.cls, T, N)) (hc : CT X.g md d (aR o :: As) M P) (hk : As.length = k) (hrs : ax_rs rest ≤ 8) (hst : st = As.reverse ++ aR o :: rest)
    (kk : ∀ r M', P r M' → AW X (pc + 3) lv (r.toList ++ rest) M') : AW X pc lv st M := by
  intro hG H locs ls hP hS hl2 hn
  have hpre := ax_pre (As := aR o :: As) hP hS B.2.2.2.2.2.1 B.2.2.2.2.2.2.1 B.2.2.2.2.2.2.2.1 hG
  refine ax_cont (P := P) (restv := rest.map (cv X.g)) (va_runV (As := As.map (cv X.g)) (b := X.g.ad o) (C := md.1.cls) (nL := X.nL) ⟨B.1, B.2.1, B.2.2.1, B.2.2.2.1, B.2.2.2.2.1⟩ hc ⟨ax_callB B hv.1 hl, B.2.2.2.2.1 _ hv.2.1, B.2.2.2.2.1 _ hv.2.2⟩ ⟨hpre.1, va_recv B.2.2.2.2.2.1.1 hP hci (ax_obj hs), hpre.2⟩ rfl (by simpa using hk) (hl2.1) (by rw [hst]; simp [cv, aR]) (lv_room (by rw [ax_rs_cat]; exact hrs)) hd ⟨B.2.2.2.2.2.2.2.2.2.2.1, B.2.2.2.2.2.2.2.2.2.2.2⟩) hS (fun r M' H1 locs1 hp hg hP1 hS1 => ?_)
  have := kk r M' hp hg H1 locs1 ls hP1 hS1 hl2 hn
  cases r <;> exact this
theorem rr_callS {md : ax_Md} {idx k d : Nat} {As : List ax_V} {P : Option ax_V → ax_M → Prop} (B : ax_b X cc own (d + 1)) (hd : decode cc pc = .ok (.invokestatic idx, 3)) (hv : ax_st md k) (hl : Cond.methodLink own idx md.1 ∈ ax_big) (hc : CT X.g md d As M P) (hk : As.length = k) (hrs : ax_rs rest ≤ 8) (hst : st = As.reverse ++ rest)
    (kk : ∀ r M', P r M' → AW X (pc + 3) lv (r.toList ++ rest) M') : AW X pc lv st M := by
  intro hG H locs ls hP hS hl2 hn
  have hpre := ax_pre (As := As) hP hS B.2.2.2.2.2.1 B.2.2.2.2.2.2.1 B.2.2.2.2.2.2.2.1 hG
  refine ax_cont (P := P) (restv := rest.map (cv X.g)) (va_runS (As := As.map (cv X.g)) (nL := X.nL) ⟨B.1, B.2.1, B.2.2.1, B.2.2.2.1, B.2.2.2.2.1⟩ hc ⟨ax_callB B hv.1 hl, B.2.2.2.2.1 _ hv.2⟩ ⟨hpre.1, hpre.2⟩ rfl (by simpa using hk) (hl2.1) (by rw [hst]; simp) (lv_room (by rw [ax_rs_cat]; exact hrs)) hd ⟨B.2.2.2.2.2.2.2.2.2.2.1, B.2.2.2.2.2.2.2.2.2.2.2⟩) hS (fun r M' H1 locs1 hp hg hP1 hS1 => ?_)
  have := kk r M' hp hg H1 locs1 ls hP1 hS1 hl2 hn
  cases r <;> exact this
theorem rr_callN {md : ax_Md} {idx k d : Nat} {host : String} {As : List ax_V} {P : Option ax_V → ax_M → Prop} (B : ax_b X cc own (d + 1)) (hd : decode cc pc = .ok (.invokestatic idx, 3)) (hv : ax_st md k) (hl : Cond.methodLinkNest own idx md.1 host ∈ ax_nw) (hc : CT X.g md d As M P) (hk : As.length = k) (hrs : ax_rs rest ≤ 8) (hst : st = As.reverse ++ rest)
    (kk : ∀ r M', P r M' → AW X (pc + 3) lv (r.toList ++ rest) M') : AW X pc lv st M := by
  intro hG H locs ls hP hS hl2 hn
  have hpre := ax_pre (As := As) hP hS B.2.2.2.2.2.1 B.2.2.2.2.2.2.1 B.2.2.2.2.2.2.2.1 hG
  refine ax_cont (P := P) (restv := rest.map (cv X.g)) (va_runSN (As := As.map (cv X.g)) (nL := X.nL) ⟨B.1, B.2.1, B.2.2.1, B.2.2.2.1, B.2.2.2.2.1⟩ hc ⟨ax_callN B hv.1 hl, B.2.2.2.2.1 _ hv.2, trivial⟩ ⟨hpre.1, hpre.2⟩ rfl (by simpa using hk) (hl2.1) (by rw [hst]; simp) (lv_room (by rw [ax_rs_cat]; exact hrs)) hd ⟨B.2.2.2.2.2.2.2.2.2.2.1, B.2.2.2.2.2.2.2.2.2.2.2⟩) hS (fun r M' H1 locs1 hp hg hP1 hS1 => ?_)
  have := kk r M' hp hg H1 locs1 ls hP1 hS1 hl2 hn
  cases r <;> exact this
end AXR
end
section
/-! bits of numbers that are not negative -/
def tb (a k : Int) : Bool := a.toNat.testBit k.toNat
def p2 (k : Int) : Int := ((2 ^ k.toNat : Nat) : Int)
def nA (a b : Int) : Int := ((a.toNat &&& b.toNat : Nat) : Int)
def nO (a b : Int) : Int := ((a.toNat ||| b.toNat : Nat) : Int)
/-- a without the bits of b -/
def nD (a b : Int) : Int := ((a.toNat ^^^ (a.toNat &&& b.toNat) : Nat) : Int)
theorem p2_pos (k : Int) : 1 ≤ p2 k := by
  unfold p2
  have := Nat.one_le_two_pow (n := k.toNat)
  omega
theorem p2_le {a b : Int} (h : a ≤ b) : p2 a ≤ p2 b := by
  unfold p2
  have := Nat.pow_le_pow_right (n := 2) (by omega) (show a.toNat ≤ b.toNat by omega)
  omega
theorem ax_toNat {a : Int} (h : 0 ≤ a ∧ a ≤ 2147483647) : (ax_i a).toBitVec.toNat = a.toNat := by
  show (BitVec.ofInt 32 a).toNat = _
  rw [BitVec.toNat_ofInt]
  omega
theorem ax_i_nat {n : Nat} (x : Int32) (h : x.toBitVec.toNat = n) (hn : n ≤ 2147483647) : x.toInt = (n : Int) := by
  show x.toBitVec.toInt = _
  rw [BitVec.toInt_eq_toNat_cond, h]
  split <;> omega
theorem ax_and_nn {a b : Int} (ha : 0 ≤ a ∧ a ≤ 2147483647) (hb : 0 ≤ b ∧ b ≤ 2147483647) : ax_and a b = nA a b := by
  unfold ax_and nA
  refine ax_i_nat _ ?_ ?_
  · rw [Int32.toBitVec_and, BitVec.toNat_and, ax_toNat ha, ax_toNat hb]
  · have := @Nat.and_le_left a.toNat b.toNat
    omega
theorem ax_or_nn {a b : Int} (ha : 0 ≤ a ∧ a ≤ 2147483647) (hb : 0 ≤ b ∧ b ≤ 2147483647) : ax_or a b = nO a b := by
  unfold ax_or nO
  refine ax_i_nat _ ?_ ?_
  · rw [Int32.toBitVec_or, BitVec.toNat_or, ax_toNat ha, ax_toNat hb]
  · have := Nat.or_lt_two_pow (n := 31) (show a.toNat < 2 ^ 31 by omega) (show b.toNat < 2 ^ 31 by omega)
    omega
theorem ax_shr_nn {a k : Int} (ha : 0 ≤ a ∧ a ≤ 2147483647) (hk : 0 ≤ k ∧ k ≤ 31) : ax_shr a k = ((a.toNat >>> k.toNat : Nat) : Int) := by
  unfold ax_shr
  have e1 : ax_i k &&& 31 = ax_i k := by
    have h := ax_and_nn (a := k) (b := 31) (by omega) (by omega)
    have e2 : (ax_i k &&& ax_i 31).toInt = k := by
      have h2 : ax_and k 31 = k := by
        rw [h]
        unfold nA
        have : k.toNat &&& (31 : Int).toNat = k.toNat := by
          show k.toNat &&& (2 ^ 5 - 1) = _
          rw [Nat.and_two_pow_sub_one_eq_mod, Nat.mod_eq_of_lt (by omega)]
        rw [this]
        omega
      exact h2
    apply Int32.toInt_inj.mp
    rw [ax_i_of (by omega)]
    exact e2
  rw [e1]
  refine ax_i_nat _ ?_ ?_
  · rw [Int32.toBitVec_shiftRight]
    have e3 : ((ax_i k).toBitVec.smod 32).toNat = k.toNat := by
      have : (ax_i k).toBitVec = BitVec.ofNat 32 k.toNat := by
        apply BitVec.eq_of_toNat_eq
        rw [ax_toNat (by omega), BitVec.toNat_ofNat]
        omega
      rw [this]
      have hk2 : k.toNat < 32 := by omega
      generalize k.toNat = j at hk2
      have : ∀ j : Fin 32, ((BitVec.ofNat 32 j.val).smod 32).toNat = j.val := by decide
      exact this ⟨j, hk2⟩
    rw [show (ax_i a).toBitVec.sshiftRight' ((ax_i k).toBitVec.smod 32) = (ax_i a).toBitVec.sshiftRight ((ax_i k).toBitVec.smod 32).toNat from rfl, e3]
    rw [BitVec.sshiftRight_eq_of_msb_false, BitVec.toNat_ushiftRight, ax_toNat ha]
    rw [BitVec.msb_eq_decide, ax_toNat ha]
    simp
    omega
  · have := Nat.shiftRight_le a.toNat k.toNat
    omega
theorem ax_shl_nn {a k : Int} (hk : 0 ≤ k ∧ k ≤ 30) (ha : 0 ≤ a) (h : a * p2 k ≤ 2147483647) : ax_shl a k = a * p2 k := by
  unfold ax_shl
  have e1 : ax_i k &&& 31 = ax_i k := by
    have h := ax_and_nn (a := k) (b := 31) (by omega) (by omega)
    have h2 : ax_and k 31 = k := by
      rw [h]
      unfold nA
      have : k.toNat &&& (31 : Int).toNat = k.toNat := by
        show k.toNat &&& (2 ^ 5 - 1) = _
        rw [Nat.and_two_pow_sub_one_eq_mod, Nat.mod_eq_of_lt (by omega)]
      rw [this]
      omega
    apply Int32.toInt_inj.mp
    rw [ax_i_of (by omega)]
    exact h2
  rw [e1]
  have hp := p2_pos k
  have ha2 : a ≤ 2147483647 := by
    have := Int.mul_le_mul_of_nonneg_left hp ha
    omega
  have e4 : a * p2 k = ((a.toNat * 2 ^ k.toNat : Nat) : Int) := by
    unfold p2
    push_cast
    rw [show ((a.toNat : Nat) : Int) = a by omega]
  rw [e4]
  refine ax_i_nat _ ?_ (by omega)
  rw [Int32.toBitVec_shiftLeft]
  have e3 : ((ax_i k).toBitVec.smod 32).toNat = k.toNat := by
    have : (ax_i k).toBitVec = BitVec.ofNat 32 k.toNat := by
      apply BitVec.eq_of_toNat_eq
      rw [ax_toNat (by omega), BitVec.toNat_ofNat]
      omega
    rw [this]
    have hk2 : k.toNat < 32 := by omega
    generalize k.toNat = j at hk2
    have : ∀ j : Fin 32, ((BitVec.ofNat 32 j.val).smod 32).toNat = j.val := by decide
    exact this ⟨j, hk2⟩
  rw [show (ax_i a).toBitVec <<< ((ax_i k).toBitVec.smod 32) = (ax_i a).toBitVec <<< ((ax_i k).toBitVec.smod 32).toNat from rfl, e3, BitVec.toNat_shiftLeft, ax_toNat ⟨ha, ha2⟩, Nat.shiftLeft_eq, Nat.mod_eq_of_lt (by omega)]
theorem ax_andnot {a b : Int} (ha : 0 ≤ a ∧ a ≤ 2147483647) (hb : 0 ≤ b ∧ b ≤ 2147483647) : ax_and a (-1 - b) = nD a b := by
  unfold ax_and nD
  have e : ax_i (-1 - b) = ax_i b ^^^ ax_i (-1) := (ax_not b).symm
  rw [e]
  refine ax_i_nat _ ?_ ?_
  · rw [Int32.toBitVec_and, Int32.toBitVec_xor]
    have e2 : (ax_i a).toBitVec &&& ((ax_i b).toBitVec ^^^ (ax_i (-1)).toBitVec) = (ax_i a).toBitVec ^^^ ((ax_i a).toBitVec &&& (ax_i b).toBitVec) := by
      have e5 : (ax_i (-1)).toBitVec = BitVec.allOnes 32 := by decide
      rw [e5]
      generalize (ax_i a).toBitVec = u
      generalize (ax_i b).toBitVec = w
      apply BitVec.eq_of_getLsbD_eq
      intro i hi
      simp only [BitVec.getLsbD_and, BitVec.getLsbD_xor, BitVec.getLsbD_allOnes, hi, decide_true]
      cases u.getLsbD i <;> cases w.getLsbD i <;> rfl
    rw [e2, BitVec.toNat_xor, BitVec.toNat_and, ax_toNat ha, ax_toNat hb]
  · have := Nat.xor_lt_two_pow (n := 31) (show a.toNat < 2 ^ 31 by omega) (show a.toNat &&& b.toNat < 2 ^ 31 by have := @Nat.and_le_left a.toNat b.toNat; omega)
    omega
theorem nA_le (a b : Int) (ha : 0 ≤ a) (hb : 0 ≤ b) : 0 ≤ nA a b ∧ nA a b ≤ a ∧ nA a b ≤ b := by
  unfold nA
  have h1 := @Nat.and_le_left a.toNat b.toNat
  have h2 := @Nat.and_le_right a.toNat b.toNat
  omega
theorem nO_lt {a b : Int} (n : Nat) (ha : 0 ≤ a ∧ a < ((2 ^ n : Nat) : Int)) (hb : 0 ≤ b ∧ b < ((2 ^ n : Nat) : Int)) : 0 ≤ nO a b ∧ nO a b < ((2 ^ n : Nat) : Int) := by
  unfold nO
  have := Nat.or_lt_two_pow (n := n) (show a.toNat < 2 ^ n by omega) (show b.toNat < 2 ^ n by omega)
  omega
theorem nD_le (a b : Int) (ha : 0 ≤ a) : 0 ≤ nD a b ∧ nD a b ≤ a := by
  unfold nD
  have e : a.toNat ^^^ (a.toNat &&& b.toNat) ≤ a.toNat := by
    apply Nat.le_of_testBit
    intro i
    simp
    cases a.toNat.testBit i <;> simp
  omega
theorem tb_nA (a b k : Int) : tb (nA a b) k = (tb a k && tb b k) := by simp [tb, nA]
theorem tb_nO (a b k : Int) : tb (nO a b) k = (tb a k || tb b k) := by simp [tb, nO]
theorem tb_nD (a b k : Int) : tb (nD a b) k = (tb a k && !tb b k) := by
  simp [tb, nD]
  cases a.toNat.testBit k.toNat <;> simp
theorem tb_p2 {k j : Int} (hk : 0 ≤ k) (hj : 0 ≤ j) : tb (p2 k) j = decide (j = k) := by
  unfold tb p2
  rw [Int.toNat_natCast, Nat.testBit_two_pow]
  apply decide_eq_decide.mpr
  omega
theorem tb_0 (k : Int) : tb 0 k = false := by simp [tb]
theorem tb_ext {a b : Int} (ha : 0 ≤ a) (hb : 0 ≤ b) (h : ∀ k : Int, 0 ≤ k → tb a k = tb b k) : a = b := by
  have : a.toNat = b.toNat := by
    apply Nat.eq_of_testBit_eq
    intro i
    have := h (i : Int) (by omega)
    simpa [tb] using this
  omega
/-- bit k, as the class and the reference read it -/
theorem tb_eq {a k : Int} (ha : 0 ≤ a ∧ a ≤ 2147483647) (hk : 0 ≤ k ∧ k ≤ 31) : ax_and (ax_shr a k) 1 = bi (tb a k) := by
  rw [ax_shr_nn ha hk]
  have hs := Nat.shiftRight_le a.toNat k.toNat
  have hs2 : (0 : Int) ≤ ((a.toNat >>> k.toNat : Nat) : Int) ∧ ((a.toNat >>> k.toNat : Nat) : Int) ≤ 2147483647 := by
    generalize a.toNat >>> k.toNat = q at hs ⊢
    omega
  rw [ax_and_nn hs2 (by omega)]
  unfold nA tb bi Nat.testBit
  rw [Int.toNat_natCast]
  have e : (1 : Int).toNat = 1 := rfl
  rw [e, Nat.and_comm]
  by_cases h : 1 &&& a.toNat >>> k.toNat = 0
  · rw [h]; simp
  · have h2 : 1 &&& a.toNat >>> k.toNat ≤ 1 := Nat.and_le_left
    have h1 : 1 &&& a.toNat >>> k.toNat = 1 := by omega
    rw [h1]; simp
theorem bi_01 (b : Bool) : bi b = 0 ∨ bi b = 1 := by cases b <;> decide
theorem bi_t : bi true = 1 := rfl
theorem bi_f : bi false = 0 := rfl
theorem bi_r (b : Bool) : 0 ≤ bi b ∧ bi b ≤ 1 := by cases b <;> decide
section AXS
variable {X : ax_X} {cc : ByteArray} {own : String} {n pc : Nat} {lv : List (Option ax_V)} {rest st : List ax_V} {M : ax_M}
theorem ax_bm {m : Nat} (B : ax_b X cc own n) (h : m ≤ n) : ax_b X cc own m := ⟨B.1, B.2.1, B.2.2.1, B.2.2.2.1, B.2.2.2.2.1, B.2.2.2.2.2.1, B.2.2.2.2.2.2.1, B.2.2.2.2.2.2.2.1, B.2.2.2.2.2.2.2.2.1, ⟨Nat.le_trans h B.2.2.2.2.2.2.2.2.2.1.1, by have := B.2.2.2.2.2.2.2.2.2.1.2; omega⟩, B.2.2.2.2.2.2.2.2.2.2⟩
theorem rr_ldcw {idx : Nat} {z : Int} {v : Int32} (B : ax_b X cc own n) (hd : decode cc pc = .ok (.ldc_w idx, 3)) (hw : Cond.constant own idx v ∈ ax_big) (hz : v = ax_i z) (k : AW X (pc + 3) lv (aI z :: rest) M) : AW X pc lv rest M := fun hG H locs ls hP hS hl hn => lv_ldcw B.1 B.2.1 B.2.2.2.1 (hz ▸ B.2.2.2.2.1 _ hw) hd (k hG H locs ls hP hS hl hn)
theorem rr_ineg {a : Int} (B : ax_b X cc own n) (hd : decode cc pc = .ok (.ineg, 1)) (k : AW X (pc + 1) lv (aI (-a) :: rest) M) : AW X pc lv (aI a :: rest) M := by
  intro hG H locs ls hP hS hl hn
  refine lv_ineg B.1 B.2.1 hd ?_
  refine lv_topi (fun y hy => ?_)
  obtain rfl := hy.trans (Int32.ofInt_neg (a := a)).symm
  exact k hG H locs ls hP hS hl hn
theorem rr_tabOut {a dflt lo hi : Int} {offs : Array Int} {len : Nat} (tgt : Nat) (B : ax_b X cc own n) (hd : decode cc pc = .ok (.tableswitch dflt lo hi offs, len)) (hr : -2147483648 ≤ a ∧ a ≤ 2147483647) (h : a < lo ∨ hi < a) (ht : (pc : Int) + dflt = (tgt : Int)) (k : AW X tgt lv rest M) : AW X pc lv (aI a :: rest) M := by
  intro hG H locs ls hP hS hl hn
  refine lv_tableOut B.1 B.2.1 hd ?_ ht (k hG H locs ls hP hS hl hn)
  rw [ax_i_of hr]
  exact h
theorem rr_tabAt {a dflt lo hi off : Int} {offs : Array Int} {len : Nat} (c : Int) (tgt : Nat) (B : ax_b X cc own n) (hd : decode cc pc = .ok (.tableswitch dflt lo hi offs, len)) (hc : a = c) (hr : -2147483648 ≤ c ∧ c ≤ 2147483647 ∧ lo ≤ c ∧ c ≤ hi) (ho : offs[(c - lo).toNat]? = some off) (ht : (pc : Int) + off = (tgt : Int)) (k : AW X tgt lv rest M) : AW X pc lv (aI a :: rest) M := by
  subst hc
  intro hG H locs ls hP hS hl hn
  have e := ax_i_of (z := a) ⟨hr.1, hr.2.1⟩
  exact lv_tableIn B.1 B.2.1 hd (by rw [e]; omega) (by rw [e]; omega) (by rw [e]; exact ho) ht (k hG H locs ls hP hS hl hn)
theorem rr_lkp {a dflt off : Int} {ps : Array (Int × Int)} {len : Nat} (tgt : Nat) (B : ax_b X cc own n) (hd : decode cc pc = .ok (.lookupswitch dflt ps, len)) (hr : -2147483648 ≤ a ∧ a ≤ 2147483647) (hp : (ps.toList.zip (ps.toList.drop 1)).all (fun (a, next) => a.1 < next.1) = true) (ho : Op.lookupswitch.offset ps.toList dflt a = off) (ht : (pc : Int) + off = (tgt : Int)) (k : AW X tgt lv rest M) : AW X pc lv (aI a :: rest) M := by
  intro hG H locs ls hP hS hl hn
  exact lv_lookup B.1 B.2.1 hd hp (by rw [ax_i_of hr]; exact ho) ht (k hG H locs ls hP hS hl hn)
/-! bits -/
theorem rr_andN {a b : Int} (B : ax_b X cc own n) (hd : decode cc pc = .ok (.iand, 1)) (ha : 0 ≤ a ∧ a ≤ 2147483647 ∧ 0 ≤ b ∧ b ≤ 2147483647) (k : 0 ≤ nA a b ∧ nA a b ≤ a ∧ nA a b ≤ b → AW X (pc + 1) lv (aI (nA a b) :: rest) M) : AW X pc lv (aI b :: aI a :: rest) M :=
  rr_iand B hd (by rw [ax_and_nn ⟨ha.1, ha.2.1⟩ ha.2.2]; exact k (nA_le a b ha.1 ha.2.2.1))
theorem rr_andD {a b : Int} (B : ax_b X cc own n) (hd : decode cc pc = .ok (.iand, 1)) (ha : 0 ≤ a ∧ a ≤ 2147483647 ∧ 0 ≤ b ∧ b ≤ 2147483647) (k : 0 ≤ nD a b ∧ nD a b ≤ a → AW X (pc + 1) lv (aI (nD a b) :: rest) M) : AW X pc lv (aI (-1 - b) :: aI a :: rest) M :=
  rr_iand B hd (by rw [ax_andnot ⟨ha.1, ha.2.1⟩ ha.2.2]; exact k (nD_le a b ha.1))
/-- both below 2 to the w -/
theorem rr_orN {a b : Int} (w : Nat) (B : ax_b X cc own n) (hd : decode cc pc = .ok (.ior, 1)) (hw : w ≤ 31) (ha : 0 ≤ a ∧ a < ((2 ^ w : Nat) : Int) ∧ 0 ≤ b ∧ b < ((2 ^ w : Nat) : Int)) (k : 0 ≤ nO a b ∧ nO a b < ((2 ^ w : Nat) : Int) → AW X (pc + 1) lv (aI (nO a b) :: rest) M) : AW X pc lv (aI b :: aI a :: rest) M := by
  have h31 : (2 ^ w : Nat) ≤ 2 ^ 31 := Nat.pow_le_pow_right (by omega) hw
  exact rr_ior B hd (by rw [ax_or_nn (by omega) (by omega)]; exact k (nO_lt w ⟨ha.1, ha.2.1⟩ ha.2.2))
theorem rr_shl1 {k0 : Int} (B : ax_b X cc own n) (hd : decode cc pc = .ok (.ishl, 1)) (hk : 0 ≤ k0 ∧ k0 ≤ 10) (k : 1 ≤ p2 k0 ∧ p2 k0 ≤ 1024 → AW X (pc + 1) lv (aI (p2 k0) :: rest) M) : AW X pc lv (aI k0 :: aI 1 :: rest) M := by
  have h1 := p2_pos k0
  have h2 := p2_le hk.2
  have h3 : p2 10 = 1024 := rfl
  refine rr_ishl B hd ?_
  rw [ax_shl_nn ⟨hk.1, by omega⟩ (by omega) (by omega), Int.one_mul]
  exact k ⟨h1, by omega⟩
theorem rr_shlB {k0 : Int} {b : Bool} (B : ax_b X cc own n) (hd : decode cc pc = .ok (.ishl, 1)) (hk : 0 ≤ k0 ∧ k0 ≤ 10) (k : 0 ≤ bi b * p2 k0 ∧ bi b * p2 k0 ≤ p2 k0 ∧ p2 k0 ≤ 1024 → AW X (pc + 1) lv (aI (bi b * p2 k0) :: rest) M) : AW X pc lv (aI k0 :: aI (bi b) :: rest) M := by
  have h1 := p2_pos k0
  have h2 := p2_le hk.2
  have h3 : p2 10 = 1024 := rfl
  have h4 : 0 ≤ bi b * p2 k0 ∧ bi b * p2 k0 ≤ p2 k0 := by cases b <;> simp [bi] <;> omega
  refine rr_ishl B hd ?_
  rw [ax_shl_nn ⟨hk.1, by omega⟩ (bi_r b).1 (by omega)]
  exact k ⟨h4.1, h4.2, by omega⟩
/-- (a >> k) & 1 -/
theorem rr_tb {a k0 : Int} (B : ax_b X cc own n) (hd : decode cc pc = .ok (.ishr, 1)) (hd1 : decode cc (pc + 1) = .ok (.iconst 1, 1)) (hd2 : decode cc (pc + 1 + 1) = .ok (.iand, 1)) (ha : 0 ≤ a ∧ a ≤ 2147483647) (hk : 0 ≤ k0 ∧ k0 ≤ 31) (k : AW X (pc + 1 + 1 + 1) lv (aI (bi (tb a k0)) :: rest) M) : AW X pc lv (aI k0 :: aI a :: rest) M :=
  rr_ishr B hd (rr_iconst B hd1 (rr_iand B hd2 (by rw [tb_eq ha hk]; exact k)))
/-! copies -/
def mc (M : ax_M) (ks : Nat) (sp : Int) (kd : Nat) (dp m : Int) : ax_M := fun k i => if k = kd ∧ dp ≤ i ∧ i < dp + m then M ks (sp + (i - dp)) else M k i
theorem mc_ne {M : ax_M} {ks kd k : Nat} {sp dp m : Int} (h : k ≠ kd) : mc M ks sp kd dp m k = M k := by
  funext i
  simp [mc, h]
theorem mc_RG {ks kd : Nat} {sp dp m lo up : Int} (h : RG M) (h1 : ∀ i, bd ks i = (lo, up)) (h2 : ∀ i, bd kd i = (lo, up)) : RG (mc M ks sp kd dp m) := by
  intro k i
  unfold mc
  split
  · next q =>
    obtain ⟨rfl, -⟩ := q
    rw [h2]
    exact h.at (h1 _)
  · exact h k i
theorem rr_copyI {idx ks kd N1 N2 : Nat} {sp dp m lo up : Int} (B : ax_b X cc own n) (hd : decode cc pc = .ok (.invokestatic idx, 3)) (hn1 : 1 ≤ n) (hlk : Cond.methodLink own idx arraycopyName ∈ ax_big) (hnat : Cond.native arraycopyName ∈ ax_big) (hst : Cond.static arraycopyName ∈ ax_big) (hini : Cond.initialized "java/lang/System" ∈ ax_big) (ha : ax_arr 0 ks N1 lo up) (hb : ax_arr 0 kd N2 lo up) (hr : 0 ≤ sp ∧ 0 ≤ dp ∧ 0 ≤ m ∧ sp + m ≤ N1 ∧ dp + m ≤ N2) (hrs : ax_rs rest ≤ 8) (kk : AW X (pc + 3) lv rest (mc M ks sp kd dp m)) : AW X pc lv (aI m :: aI dp :: aR kd :: aI sp :: aR ks :: rest) M := by
  intro hG H locs ls hP hS hl hn
  obtain ⟨⟨x1, hs1⟩, hN1, hb1⟩ := ha
  obtain ⟨⟨x2, hs2⟩, hN2, hb2⟩ := hb
  have nn : ∀ z : Int, 0 ≤ z → z ≤ 2147483647 → ¬ ax_i z < 0 ∧ (ax_i z).toNatClampNeg = z.toNat := by
    intro z h1 h2
    have e := ax_i_of (z := z) (by omega)
    refine ⟨?_, by rw [← Int32.toNat_toInt, e]⟩
    rw [← ax_i_0, ax_i_lt (by omega)]
    omega
  obtain ⟨s1, s2⟩ := nn sp (by omega) (by omega)
  obtain ⟨d1, d2⟩ := nn dp (by omega) (by omega)
  obtain ⟨m1, m2⟩ := nn m (by omega) (by omega)
  have hR := B.2.2.2.2.2.2.2.2.2.1
  refine va_copyi B.1 B.2.1 (by rw [B.2.2.1]; exact hl.1.symm) B.2.2.2.1 (B.2.2.2.2.1 _ hlk) (B.2.2.2.2.1 _ hnat) (B.2.2.2.2.1 _ hst) (B.2.2.2.2.1 _ hini) B.2.2.2.2.2.1.1 hP (ax_vaD B.2.2.2.2.2.2.2.1) hS ks kd 0 0 (ax_arrI hs1) (ax_arrI hs2) rfl rfl rfl s1 d1 m1 (by rw [s2, m2]; omega) (by rw [d2, m2]; omega) (fun _ _ => rfl) (Nat.le_trans hn1 hR.1) (by
    rw [ax_rs_cat]
    show ax_rs rest + (5 + 2 + 11) ≤ _
    omega) hd (fun H1 locs1 hP1 hD1 hS1 => ?_)
  rw [wd_set (M' := mc M ks sp kd dp m) (fun j hj => ax_cell_off (mc_ne hj)) (by
    unfold ax_cell
    rw [hs2]
    show Sum.inl (X.g.cI, N2, Sum.inl fun j : Nat => ax_i (mc M ks sp kd dp m kd j)) = _
    congr 4
    funext j
    unfold va_cpy mc
    rw [s2, d2, m2]
    by_cases q : dp.toNat ≤ j ∧ j < dp.toNat + m.toNat
    · rw [if_pos (by omega), if_pos q]
      congr 2
      omega
    · rw [if_neg (by omega), if_neg q])] at hP1
  exact kk (mc_RG hG hb1 hb2) H1 locs1 ls hP1 hS1 hl hn
theorem rr_copyL {idx ks kd N1 N2 : Nat} {sp dp m lo up : Int} (B : ax_b X cc own n) (hd : decode cc pc = .ok (.invokestatic idx, 3)) (hn1 : 1 ≤ n) (hlk : Cond.methodLink own idx arraycopyName ∈ ax_big) (hnat : Cond.native arraycopyName ∈ ax_big) (hst : Cond.static arraycopyName ∈ ax_big) (hini : Cond.initialized "java/lang/System" ∈ ax_big) (ha : ax_arr 2 ks N1 lo up) (hb : ax_arr 2 kd N2 lo up) (hr : 0 ≤ sp ∧ 0 ≤ dp ∧ 0 ≤ m ∧ sp + m ≤ N1 ∧ dp + m ≤ N2) (hrs : ax_rs rest ≤ 8) (kk : AW X (pc + 3) lv rest (mc M ks sp kd dp m)) : AW X pc lv (aI m :: aI dp :: aR kd :: aI sp :: aR ks :: rest) M := by
  intro hG H locs ls hP hS hl hn
  obtain ⟨⟨x1, hs1⟩, hN1, hb1⟩ := ha
  obtain ⟨⟨x2, hs2⟩, hN2, hb2⟩ := hb
  have nn : ∀ z : Int, 0 ≤ z → z ≤ 2147483647 → ¬ ax_i z < 0 ∧ (ax_i z).toNatClampNeg = z.toNat := by
    intro z h1 h2
    have e := ax_i_of (z := z) (by omega)
    refine ⟨?_, by rw [← Int32.toNat_toInt, e]⟩
    rw [← ax_i_0, ax_i_lt (by omega)]
    omega
  obtain ⟨s1, s2⟩ := nn sp (by omega) (by omega)
  obtain ⟨d1, d2⟩ := nn dp (by omega) (by omega)
  obtain ⟨m1, m2⟩ := nn m (by omega) (by omega)
  have hR := B.2.2.2.2.2.2.2.2.2.1
  refine va_copyl B.1 B.2.1 (by rw [B.2.2.1]; exact hl.1.symm) B.2.2.2.1 (B.2.2.2.2.1 _ hlk) (B.2.2.2.2.1 _ hnat) (B.2.2.2.2.1 _ hst) (B.2.2.2.2.1 _ hini) B.2.2.2.2.2.1.1 hP (ax_vaD B.2.2.2.2.2.2.2.1) hS ks kd 2 2 (ax_arrJ hs1) (ax_arrJ hs2) rfl rfl rfl s1 d1 m1 (by rw [s2, m2]; omega) (by rw [d2, m2]; omega) (fun _ _ => rfl) (Nat.le_trans hn1 hR.1) (by
    rw [ax_rs_cat]
    show ax_rs rest + (5 + 2 + 11) ≤ _
    omega) hd (fun H1 locs1 hP1 hD1 hS1 => ?_)
  rw [wd_set (M' := mc M ks sp kd dp m) (fun j hj => ax_cell_off (mc_ne hj)) (by
    unfold ax_cell
    rw [hs2]
    show Sum.inl (X.g.cJ, N2, Sum.inr (Sum.inl fun j : Nat => ax_l (mc M ks sp kd dp m kd j))) = _
    congr 5
    funext j
    unfold va_cpy mc
    rw [s2, d2, m2]
    by_cases q : dp.toNat ≤ j ∧ j < dp.toNat + m.toNat
    · rw [if_pos (by omega), if_pos q]
      congr 2
      omega
    · rw [if_neg (by omega), if_neg q])] at hP1
  exact kk (mc_RG hG hb1 hb2) H1 locs1 ls hP1 hS1 hl hn
/-! calls by the kind of answer: an int, a long, nothing; the memory behind it given, or by what is said of it -/
def pI (v : Int) (M2 : ax_M) : Option ax_V → ax_M → Prop := fun r M' => r = some (aI v) ∧ M' = M2
def pL (v : Int) (M2 : ax_M) : Option ax_V → ax_M → Prop := fun r M' => r = some (aL v) ∧ M' = M2
def pV (M2 : ax_M) : Option ax_V → ax_M → Prop := fun r M' => r = none ∧ M' = M2
def pIR (v : Int) (F : ax_M → Prop) : Option ax_V → ax_M → Prop := fun r M' => r = some (aI v) ∧ F M'
def pLR (v : Int) (F : ax_M → Prop) : Option ax_V → ax_M → Prop := fun r M' => r = some (aL v) ∧ F M'
def pVR (F : ax_M → Prop) : Option ax_V → ax_M → Prop := fun r M' => r = none ∧ F M'
theorem rc_VI {md : ax_Md} {idx k d o ci : Nat} {As : List ax_V} {fs : List (Option Nat)} {T : u_T} {N : Nat} {M2 : ax_M} {v : Int} (B : ax_b X cc own n) (hd : decode cc pc = .ok (.invokevirtual idx, 3)) (hv : ax_vm md k) (hl : Cond.methodLink own idx md.1 ∈ ax_big) (hs : ax_shp o = (4, ci, fs)) (hci : vwCl[ci]? = some (md.1.cls, T, N)) (hc : CT X.g md d (aR o :: As) M (pI v M2)) (hdn : d + 1 ≤ n) (hk : As.length = k) (hrs : ax_rs rest ≤ 8) (hst : st = As.reverse ++ aR o :: rest) (kk : AW X (pc + 3) lv (aI v :: rest) M2) : AW X pc lv st M :=
  rr_callV (ax_bm B hdn) hd hv hl hs hci hc hk hrs hst (fun r M3 h => by obtain ⟨rfl, rfl⟩ := h; exact kk)
theorem rc_VIR {md : ax_Md} {idx k d o ci : Nat} {As : List ax_V} {fs : List (Option Nat)} {T : u_T} {N : Nat} {F : ax_M → Prop} {v : Int} (B : ax_b X cc own n) (hd : decode cc pc = .ok (.invokevirtual idx, 3)) (hv : ax_vm md k) (hl : Cond.methodLink own idx md.1 ∈ ax_big) (hs : ax_shp o = (4, ci, fs)) (hci : vwCl[ci]? = some (md.1.cls, T, N)) (hc : CT X.g md d (aR o :: As) M (pIR v F)) (hdn : d + 1 ≤ n) (hk : As.length = k) (hrs : ax_rs rest ≤ 8) (hst : st = As.reverse ++ aR o :: rest) (kk : ∀ M2, F M2 → AW X (pc + 3) lv (aI v :: rest) M2) : AW X pc lv st M :=
  rr_callV (ax_bm B hdn) hd hv hl hs hci hc hk hrs hst (fun r M3 h => by obtain ⟨rfl, h2⟩ := h; exact kk M3 h2)
theorem rc_VL {md : ax_Md} {idx k d o ci : Nat} {As : List ax_V} {fs : List (Option Nat)} {T : u_T} {N : Nat} {M2 : ax_M} {v : Int} (B : ax_b X cc own n) (hd : decode cc pc = .ok (.invokevirtual idx, 3)) (hv : ax_vm md k) (hl : Cond.methodLink own idx md.1 ∈ ax_big) (hs : ax_shp o = (4, ci, fs)) (hci : vwCl[ci]? = some (md.1.cls, T, N)) (hc : CT X.g md d (aR o :: As) M (pL v M2)) (hdn : d + 1 ≤ n) (hk : As.length = k) (hrs : ax_rs rest ≤ 8) (hst : st = As.reverse ++ aR o :: rest) (kk : AW X (pc + 3) lv (aL v :: rest) M2) : AW X pc lv st M :=
  rr_callV (ax_bm B hdn) hd hv hl hs hci hc hk hrs hst (fun r M3 h => by obtain ⟨rfl, rfl⟩ := h; exact kk)
theorem rc_VLR {md : ax_Md} {idx k d o ci : Nat} {As : List ax_V} {fs : List (Option Nat)} {T : u_T} {N : Nat} {F : ax_M → Prop} {v : Int} (B : ax_b X cc own n) (hd : decode cc pc = .ok (.invokevirtual idx, 3)) (hv : ax_vm md k) (hl : Cond.methodLink own idx md.1 ∈ ax_big) (hs : ax_shp o = (4, ci, fs)) (hci : vwCl[ci]? = some (md.1.cls, T, N)) (hc : CT X.g md d (aR o :: As) M (pLR v F)) (hdn : d + 1 ≤ n) (hk : As.length = k) (hrs : ax_rs rest ≤ 8) (hst : st = As.reverse ++ aR o :: rest) (kk : ∀ M2, F M2 → AW X (pc + 3) lv (aL v :: rest) M2) : AW X pc lv st M :=
  rr_callV (ax_bm B hdn) hd hv hl hs hci hc hk hrs hst (fun r M3 h => by obtain ⟨rfl, h2⟩ := h; exact kk M3 h2)
theorem rc_VV {md : ax_Md} {idx k d o ci : Nat} {As : List ax_V} {fs : List (Option Nat)} {T : u_T} {N : Nat} {M2 : ax_M} (B : ax_b X cc own n) (hd : decode cc pc = .ok (.invokevirtual idx, 3)) (hv : ax_vm md k) (hl : Cond.methodLink own idx md.1 ∈ ax_big) (hs : ax_shp o = (4, ci, fs)) (hci : vwCl[ci]? = some (md.1.cls, T, N)) (hc : CT X.g md d (aR o :: As) M (pV M2)) (hdn : d + 1 ≤ n) (hk : As.length = k) (hrs : ax_rs rest ≤ 8) (hst : st = As.reverse ++ aR o :: rest) (kk : AW X (pc + 3) lv (rest) M2) : AW X pc lv st M :=
  rr_callV (ax_bm B hdn) hd hv hl hs hci hc hk hrs hst (fun r M3 h => by obtain ⟨rfl, rfl⟩ := h; exact kk)
theorem rc_VVR {md : ax_Md} {idx k d o ci : Nat} {As : List ax_V} {fs : List (Option Nat)} {T : u_T} {N : Nat} {F : ax_M → Prop} (B : ax_b X cc own n) (hd : decode cc pc = .ok (.invokevirtual idx, 3)) (hv : ax_vm md k) (hl : Cond.methodLink own idx md.1 ∈ ax_big) (hs : ax_shp o = (4, ci, fs)) (hci : vwCl[ci]? = some (md.1.cls, T, N)) (hc : CT X.g md d (aR o :: As) M (pVR F)) (hdn : d + 1 ≤ n) (hk : As.length = k) (hrs : ax_rs rest ≤ 8) (hst : st = As.reverse ++ aR o :: rest) (kk : ∀ M2, F M2 → AW X (pc + 3) lv (rest) M2) : AW X pc lv st M :=
  rr_callV (ax_bm B hdn) hd hv hl hs hci hc hk hrs hst (fun r M3 h => by obtain ⟨rfl, h2⟩ := h; exact kk M3 h2)
theorem rc_SI {md : ax_Md} {idx k d : Nat} {As : List ax_V} {M2 : ax_M} {v : Int} (B : ax_b X cc own n) (hd : decode cc pc = .ok (.invokestatic idx, 3)) (hv : ax_st md k) (hl : Cond.methodLink own idx md.1 ∈ ax_big) (hc : CT X.g md d As M (pI v M2)) (hdn : d + 1 ≤ n) (hk : As.length = k) (hrs : ax_rs rest ≤ 8) (hst : st = As.reverse ++ rest) (kk : AW X (pc + 3) lv (aI v :: rest) M2) : AW X pc lv st M :=
  rr_callS (ax_bm B hdn) hd hv hl hc hk hrs hst (fun r M3 h => by obtain ⟨rfl, rfl⟩ := h; exact kk)
theorem rc_SIR {md : ax_Md} {idx k d : Nat} {As : List ax_V} {F : ax_M → Prop} {v : Int} (B : ax_b X cc own n) (hd : decode cc pc = .ok (.invokestatic idx, 3)) (hv : ax_st md k) (hl : Cond.methodLink own idx md.1 ∈ ax_big) (hc : CT X.g md d As M (pIR v F)) (hdn : d + 1 ≤ n) (hk : As.length = k) (hrs : ax_rs rest ≤ 8) (hst : st = As.reverse ++ rest) (kk : ∀ M2, F M2 → AW X (pc + 3) lv (aI v :: rest) M2) : AW X pc lv st M :=
  rr_callS (ax_bm B hdn) hd hv hl hc hk hrs hst (fun r M3 h => by obtain ⟨rfl, h2⟩ := h; exact kk M3 h2)
theorem rc_SL {md : ax_Md} {idx k d : Nat} {As : List ax_V} {M2 : ax_M} {v : Int} (B : ax_b X cc own n) (hd : decode cc pc = .ok (.invokestatic idx, 3)) (hv : ax_st md k) (hl : Cond.methodLink own idx md.1 ∈ ax_big) (hc : CT X.g md d As M (pL v M2)) (hdn : d + 1 ≤ n) (hk : As.length = k) (hrs : ax_rs rest ≤ 8) (hst : st = As.reverse ++ rest) (kk : AW X (pc + 3) lv (aL v :: rest) M2) : AW X pc lv st M :=
  rr_callS (ax_bm B hdn) hd hv hl hc hk hrs hst (fun r M3 h => by obtain ⟨rfl, rfl⟩ := h; exact kk)
theorem rc_SLR {md : ax_Md} {idx k d : Nat} {As : List ax_V} {F : ax_M → Prop} {v : Int} (B : ax_b X cc own n) (hd : decode cc pc = .ok (.invokestatic idx, 3)) (hv : ax_st md k) (hl : Cond.methodLink own idx md.1 ∈ ax_big) (hc : CT X.g md d As M (pLR v F)) (hdn : d + 1 ≤ n) (hk : As.length = k) (hrs : ax_rs rest ≤ 8) (hst : st = As.reverse ++ rest) (kk : ∀ M2, F M2 → AW X (pc + 3) lv (aL v :: rest) M2) : AW X pc lv st M :=
  rr_callS (ax_bm B hdn) hd hv hl hc hk hrs hst (fun r M3 h => by obtain ⟨rfl, h2⟩ := h; exact kk M3 h2)
theorem rc_SV {md : ax_Md} {idx k d : Nat} {As : List ax_V} {M2 : ax_M} (B : ax_b X cc own n) (hd : decode cc pc = .ok (.invokestatic idx, 3)) (hv : ax_st md k) (hl : Cond.methodLink own idx md.1 ∈ ax_big) (hc : CT X.g md d As M (pV M2)) (hdn : d + 1 ≤ n) (hk : As.length = k) (hrs : ax_rs rest ≤ 8) (hst : st = As.reverse ++ rest) (kk : AW X (pc + 3) lv (rest) M2) : AW X pc lv st M :=
  rr_callS (ax_bm B hdn) hd hv hl hc hk hrs hst (fun r M3 h => by obtain ⟨rfl, rfl⟩ := h; exact kk)
theorem rc_SVR {md : ax_Md} {idx k d : Nat} {As : List ax_V} {F : ax_M → Prop} (B : ax_b X cc own n) (hd : decode cc pc = .ok (.invokestatic idx, 3)) (hv : ax_st md k) (hl : Cond.methodLink own idx md.1 ∈ ax_big) (hc : CT X.g md d As M (pVR F)) (hdn : d + 1 ≤ n) (hk : As.length = k) (hrs : ax_rs rest ≤ 8) (hst : st = As.reverse ++ rest) (kk : ∀ M2, F M2 → AW X (pc + 3) lv (rest) M2) : AW X pc lv st M :=
  rr_callS (ax_bm B hdn) hd hv hl hc hk hrs hst (fun r M3 h => by obtain ⟨rfl, h2⟩ := h; exact kk M3 h2)
theorem rc_NI {md : ax_Md} {idx k d : Nat} {host : String} {As : List ax_V} {M2 : ax_M} {v : Int} (B : ax_b X cc own n) (hd : decode cc pc = .ok (.invokestatic idx, 3)) (hv : ax_st md k) (hl : Cond.methodLinkNest own idx md.1 host ∈ ax_nw) (hc : CT X.g md d As M (pI v M2)) (hdn : d + 1 ≤ n) (hk : As.length = k) (hrs : ax_rs rest ≤ 8) (hst : st = As.reverse ++ rest) (kk : AW X (pc + 3) lv (aI v :: rest) M2) : AW X pc lv st M :=
  rr_callN (ax_bm B hdn) hd hv hl hc hk hrs hst (fun r M3 h => by obtain ⟨rfl, rfl⟩ := h; exact kk)
theorem rc_NIR {md : ax_Md} {idx k d : Nat} {host : String} {As : List ax_V} {F : ax_M → Prop} {v : Int} (B : ax_b X cc own n) (hd : decode cc pc = .ok (.invokestatic idx, 3)) (hv : ax_st md k) (hl : Cond.methodLinkNest own idx md.1 host ∈ ax_nw) (hc : CT X.g md d As M (pIR v F)) (hdn : d + 1 ≤ n) (hk : As.length = k) (hrs : ax_rs rest ≤ 8) (hst : st = As.reverse ++ rest) (kk : ∀ M2, F M2 → AW X (pc + 3) lv (aI v :: rest) M2) : AW X pc lv st M :=
  rr_callN (ax_bm B hdn) hd hv hl hc hk hrs hst (fun r M3 h => by obtain ⟨rfl, h2⟩ := h; exact kk M3 h2)
theorem rc_NL {md : ax_Md} {idx k d : Nat} {host : String} {As : List ax_V} {M2 : ax_M} {v : Int} (B : ax_b X cc own n) (hd : decode cc pc = .ok (.invokestatic idx, 3)) (hv : ax_st md k) (hl : Cond.methodLinkNest own idx md.1 host ∈ ax_nw) (hc : CT X.g md d As M (pL v M2)) (hdn : d + 1 ≤ n) (hk : As.length = k) (hrs : ax_rs rest ≤ 8) (hst : st = As.reverse ++ rest) (kk : AW X (pc + 3) lv (aL v :: rest) M2) : AW X pc lv st M :=
  rr_callN (ax_bm B hdn) hd hv hl hc hk hrs hst (fun r M3 h => by obtain ⟨rfl, rfl⟩ := h; exact kk)
theorem rc_NLR {md : ax_Md} {idx k d : Nat} {host : String} {As : List ax_V} {F : ax_M → Prop} {v : Int} (B : ax_b X cc own n) (hd : decode cc pc = .ok (.invokestatic idx, 3)) (hv : ax_st md k) (hl : Cond.methodLinkNest own idx md.1 host ∈ ax_nw) (hc : CT X.g md d As M (pLR v F)) (hdn : d + 1 ≤ n) (hk : As.length = k) (hrs : ax_rs rest ≤ 8) (hst : st = As.reverse ++ rest) (kk : ∀ M2, F M2 → AW X (pc + 3) lv (aL v :: rest) M2) : AW X pc lv st M :=
  rr_callN (ax_bm B hdn) hd hv hl hc hk hrs hst (fun r M3 h => by obtain ⟨rfl, h2⟩ := h; exact kk M3 h2)
theorem rc_NV {md : ax_Md} {idx k d : Nat} {host : String} {As : List ax_V} {M2 : ax_M} (B : ax_b X cc own n) (hd : decode cc pc = .ok (.invokestatic idx, 3)) (hv : ax_st md k) (hl : Cond.methodLinkNest own idx md.1 host ∈ ax_nw) (hc : CT X.g md d As M (pV M2)) (hdn : d + 1 ≤ n) (hk : As.length = k) (hrs : ax_rs rest ≤ 8) (hst : st = As.reverse ++ rest) (kk : AW X (pc + 3) lv (rest) M2) : AW X pc lv st M :=
  rr_callN (ax_bm B hdn) hd hv hl hc hk hrs hst (fun r M3 h => by obtain ⟨rfl, rfl⟩ := h; exact kk)
theorem rc_NVR {md : ax_Md} {idx k d : Nat} {host : String} {As : List ax_V} {F : ax_M → Prop} (B : ax_b X cc own n) (hd : decode cc pc = .ok (.invokestatic idx, 3)) (hv : ax_st md k) (hl : Cond.methodLinkNest own idx md.1 host ∈ ax_nw) (hc : CT X.g md d As M (pVR F)) (hdn : d + 1 ≤ n) (hk : As.length = k) (hrs : ax_rs rest ≤ 8) (hst : st = As.reverse ++ rest) (kk : ∀ M2, F M2 → AW X (pc + 3) lv (rest) M2) : AW X pc lv st M :=
  rr_callN (ax_bm B hdn) hd hv hl hc hk hrs hst (fun r M3 h => by obtain ⟨rfl, h2⟩ := h; exact kk M3 h2)
theorem rc_VI0 {md : ax_Md} {idx d o ci : Nat} {fs : List (Option Nat)} {T : u_T} {N : Nat} {M2 : ax_M} {v : Int} (B : ax_b X cc own n) (hd : decode cc pc = .ok (.invokevirtual idx, 3)) (hv : ax_vm md 0) (hl : Cond.methodLink own idx md.1 ∈ ax_big) (hs : ax_shp o = (4, ci, fs)) (hci : vwCl[ci]? = some (md.1.cls, T, N)) (hc : CT X.g md d [aR o] M (pI v M2)) (hdn : d + 1 ≤ n) (hrs : ax_rs rest ≤ 8) (kk : AW X (pc + 3) lv (aI v :: rest) M2) : AW X pc lv (aR o :: rest) M :=
  rc_VI (As := []) B hd hv hl hs hci hc hdn rfl hrs rfl kk
theorem rc_VIR0 {md : ax_Md} {idx d o ci : Nat} {fs : List (Option Nat)} {T : u_T} {N : Nat} {F : ax_M → Prop} {v : Int} (B : ax_b X cc own n) (hd : decode cc pc = .ok (.invokevirtual idx, 3)) (hv : ax_vm md 0) (hl : Cond.methodLink own idx md.1 ∈ ax_big) (hs : ax_shp o = (4, ci, fs)) (hci : vwCl[ci]? = some (md.1.cls, T, N)) (hc : CT X.g md d [aR o] M (pIR v F)) (hdn : d + 1 ≤ n) (hrs : ax_rs rest ≤ 8) (kk : ∀ M2, F M2 → AW X (pc + 3) lv (aI v :: rest) M2) : AW X pc lv (aR o :: rest) M :=
  rc_VIR (As := []) B hd hv hl hs hci hc hdn rfl hrs rfl kk
theorem rc_VI1 {md : ax_Md} {idx d o ci : Nat} {a0 : ax_V} {fs : List (Option Nat)} {T : u_T} {N : Nat} {M2 : ax_M} {v : Int} (B : ax_b X cc own n) (hd : decode cc pc = .ok (.invokevirtual idx, 3)) (hv : ax_vm md 1) (hl : Cond.methodLink own idx md.1 ∈ ax_big) (hs : ax_shp o = (4, ci, fs)) (hci : vwCl[ci]? = some (md.1.cls, T, N)) (hc : CT X.g md d [aR o, a0] M (pI v M2)) (hdn : d + 1 ≤ n) (hrs : ax_rs rest ≤ 8) (kk : AW X (pc + 3) lv (aI v :: rest) M2) : AW X pc lv (a0 :: aR o :: rest) M :=
  rc_VI (As := [a0]) B hd hv hl hs hci hc hdn rfl hrs rfl kk
theorem rc_VIR1 {md : ax_Md} {idx d o ci : Nat} {a0 : ax_V} {fs : List (Option Nat)} {T : u_T} {N : Nat} {F : ax_M → Prop} {v : Int} (B : ax_b X cc own n) (hd : decode cc pc = .ok (.invokevirtual idx, 3)) (hv : ax_vm md 1) (hl : Cond.methodLink own idx md.1 ∈ ax_big) (hs : ax_shp o = (4, ci, fs)) (hci : vwCl[ci]? = some (md.1.cls, T, N)) (hc : CT X.g md d [aR o, a0] M (pIR v F)) (hdn : d + 1 ≤ n) (hrs : ax_rs rest ≤ 8) (kk : ∀ M2, F M2 → AW X (pc + 3) lv (aI v :: rest) M2) : AW X pc lv (a0 :: aR o :: rest) M :=
  rc_VIR (As := [a0]) B hd hv hl hs hci hc hdn rfl hrs rfl kk
theorem rc_VI2 {md : ax_Md} {idx d o ci : Nat} {a0 a1 : ax_V} {fs : List (Option Nat)} {T : u_T} {N : Nat} {M2 : ax_M} {v : Int} (B : ax_b X cc own n) (hd : decode cc pc = .ok (.invokevirtual idx, 3)) (hv : ax_vm md 2) (hl : Cond.methodLink own idx md.1 ∈ ax_big) (hs : ax_shp o = (4, ci, fs)) (hci : vwCl[ci]? = some (md.1.cls, T, N)) (hc : CT X.g md d [aR o, a0, a1] M (pI v M2)) (hdn : d + 1 ≤ n) (hrs : ax_rs rest ≤ 8) (kk : AW X (pc + 3) lv (aI v :: rest) M2) : AW X pc lv (a1 :: a0 :: aR o :: rest) M :=
  rc_VI (As := [a0, a1]) B hd hv hl hs hci hc hdn rfl hrs rfl kk
theorem rc_VIR2 {md : ax_Md} {idx d o ci : Nat} {a0 a1 : ax_V} {fs : List (Option Nat)} {T : u_T} {N : Nat} {F : ax_M → Prop} {v : Int} (B : ax_b X cc own n) (hd : decode cc pc = .ok (.invokevirtual idx, 3)) (hv : ax_vm md 2) (hl : Cond.methodLink own idx md.1 ∈ ax_big) (hs : ax_shp o = (4, ci, fs)) (hci : vwCl[ci]? = some (md.1.cls, T, N)) (hc : CT X.g md d [aR o, a0, a1] M (pIR v F)) (hdn : d + 1 ≤ n) (hrs : ax_rs rest ≤ 8) (kk : ∀ M2, F M2 → AW X (pc + 3) lv (aI v :: rest) M2) : AW X pc lv (a1 :: a0 :: aR o :: rest) M :=
  rc_VIR (As := [a0, a1]) B hd hv hl hs hci hc hdn rfl hrs rfl kk
theorem rc_VI3 {md : ax_Md} {idx d o ci : Nat} {a0 a1 a2 : ax_V} {fs : List (Option Nat)} {T : u_T} {N : Nat} {M2 : ax_M} {v : Int} (B : ax_b X cc own n) (hd : decode cc pc = .ok (.invokevirtual idx, 3)) (hv : ax_vm md 3) (hl : Cond.methodLink own idx md.1 ∈ ax_big) (hs : ax_shp o = (4, ci, fs)) (hci : vwCl[ci]? = some (md.1.cls, T, N)) (hc : CT X.g md d [aR o, a0, a1, a2] M (pI v M2)) (hdn : d + 1 ≤ n) (hrs : ax_rs rest ≤ 8) (kk : AW X (pc + 3) lv (aI v :: rest) M2) : AW X pc lv (a2 :: a1 :: a0 :: aR o :: rest) M :=
  rc_VI (As := [a0, a1, a2]) B hd hv hl hs hci hc hdn rfl hrs rfl kk
theorem rc_VIR3 {md : ax_Md} {idx d o ci : Nat} {a0 a1 a2 : ax_V} {fs : List (Option Nat)} {T : u_T} {N : Nat} {F : ax_M → Prop} {v : Int} (B : ax_b X cc own n) (hd : decode cc pc = .ok (.invokevirtual idx, 3)) (hv : ax_vm md 3) (hl : Cond.methodLink own idx md.1 ∈ ax_big) (hs : ax_shp o = (4, ci, fs)) (hci : vwCl[ci]? = some (md.1.cls, T, N)) (hc : CT X.g md d [aR o, a0, a1, a2] M (pIR v F)) (hdn : d + 1 ≤ n) (hrs : ax_rs rest ≤ 8) (kk : ∀ M2, F M2 → AW X (pc + 3) lv (aI v :: rest) M2) : AW X pc lv (a2 :: a1 :: a0 :: aR o :: rest) M :=
  rc_VIR (As := [a0, a1, a2]) B hd hv hl hs hci hc hdn rfl hrs rfl kk
theorem rc_VI4 {md : ax_Md} {idx d o ci : Nat} {a0 a1 a2 a3 : ax_V} {fs : List (Option Nat)} {T : u_T} {N : Nat} {M2 : ax_M} {v : Int} (B : ax_b X cc own n) (hd : decode cc pc = .ok (.invokevirtual idx, 3)) (hv : ax_vm md 4) (hl : Cond.methodLink own idx md.1 ∈ ax_big) (hs : ax_shp o = (4, ci, fs)) (hci : vwCl[ci]? = some (md.1.cls, T, N)) (hc : CT X.g md d [aR o, a0, a1, a2, a3] M (pI v M2)) (hdn : d + 1 ≤ n) (hrs : ax_rs rest ≤ 8) (kk : AW X (pc + 3) lv (aI v :: rest) M2) : AW X pc lv (a3 :: a2 :: a1 :: a0 :: aR o :: rest) M :=
  rc_VI (As := [a0, a1, a2, a3]) B hd hv hl hs hci hc hdn rfl hrs rfl kk
theorem rc_VIR4 {md : ax_Md} {idx d o ci : Nat} {a0 a1 a2 a3 : ax_V} {fs : List (Option Nat)} {T : u_T} {N : Nat} {F : ax_M → Prop} {v : Int} (B : ax_b X cc own n) (hd : decode cc pc = .ok (.invokevirtual idx, 3)) (hv : ax_vm md 4) (hl : Cond.methodLink own idx md.1 ∈ ax_big) (hs : ax_shp o = (4, ci, fs)) (hci : vwCl[ci]? = some (md.1.cls, T, N)) (hc : CT X.g md d [aR o, a0, a1, a2, a3] M (pIR v F)) (hdn : d + 1 ≤ n) (hrs : ax_rs rest ≤ 8) (kk : ∀ M2, F M2 → AW X (pc + 3) lv (aI v :: rest) M2) : AW X pc lv (a3 :: a2 :: a1 :: a0 :: aR o :: rest) M :=
  rc_VIR (As := [a0, a1, a2, a3]) B hd hv hl hs hci hc hdn rfl hrs rfl kk
theorem rc_VI5 {md : ax_Md} {idx d o ci : Nat} {a0 a1 a2 a3 a4 : ax_V} {fs : List (Option Nat)} {T : u_T} {N : Nat} {M2 : ax_M} {v : Int} (B : ax_b X cc own n) (hd : decode cc pc = .ok (.invokevirtual idx, 3)) (hv : ax_vm md 5) (hl : Cond.methodLink own idx md.1 ∈ ax_big) (hs : ax_shp o = (4, ci, fs)) (hci : vwCl[ci]? = some (md.1.cls, T, N)) (hc : CT X.g md d [aR o, a0, a1, a2, a3, a4] M (pI v M2)) (hdn : d + 1 ≤ n) (hrs : ax_rs rest ≤ 8) (kk : AW X (pc + 3) lv (aI v :: rest) M2) : AW X pc lv (a4 :: a3 :: a2 :: a1 :: a0 :: aR o :: rest) M :=
  rc_VI (As := [a0, a1, a2, a3, a4]) B hd hv hl hs hci hc hdn rfl hrs rfl kk
theorem rc_VIR5 {md : ax_Md} {idx d o ci : Nat} {a0 a1 a2 a3 a4 : ax_V} {fs : List (Option Nat)} {T : u_T} {N : Nat} {F : ax_M → Prop} {v : Int} (B : ax_b X cc own n) (hd : decode cc pc = .ok (.invokevirtual idx, 3)) (hv : ax_vm md 5) (hl : Cond.methodLink own idx md.1 ∈ ax_big) (hs : ax_shp o = (4, ci, fs)) (hci : vwCl[ci]? = some (md.1.cls, T, N)) (hc : CT X.g md d [aR o, a0, a1, a2, a3, a4] M (pIR v F)) (hdn : d + 1 ≤ n) (hrs : ax_rs rest ≤ 8) (kk : ∀ M2, F M2 → AW X (pc + 3) lv (aI v :: rest) M2) : AW X pc lv (a4 :: a3 :: a2 :: a1 :: a0 :: aR o :: rest) M :=
  rc_VIR (As := [a0, a1, a2, a3, a4]) B hd hv hl hs hci hc hdn rfl hrs rfl kk
theorem rc_VI6 {md : ax_Md} {idx d o ci : Nat} {a0 a1 a2 a3 a4 a5 : ax_V} {fs : List (Option Nat)} {T : u_T} {N : Nat} {M2 : ax_M} {v : Int} (B : ax_b X cc own n) (hd : decode cc pc = .ok (.invokevirtual idx, 3)) (hv : ax_vm md 6) (hl : Cond.methodLink own idx md.1 ∈ ax_big) (hs : ax_shp o = (4, ci, fs)) (hci : vwCl[ci]? = some (md.1.cls, T, N)) (hc : CT X.g md d [aR o, a0, a1, a2, a3, a4, a5] M (pI v M2)) (hdn : d + 1 ≤ n) (hrs : ax_rs rest ≤ 8) (kk : AW X (pc + 3) lv (aI v :: rest) M2) : AW X pc lv (a5 :: a4 :: a3 :: a2 :: a1 :: a0 :: aR o :: rest) M :=
  rc_VI (As := [a0, a1, a2, a3, a4, a5]) B hd hv hl hs hci hc hdn rfl hrs rfl kk
theorem rc_VIR6 {md : ax_Md} {idx d o ci : Nat} {a0 a1 a2 a3 a4 a5 : ax_V} {fs : List (Option Nat)} {T : u_T} {N : Nat} {F : ax_M → Prop} {v : Int} (B : ax_b X cc own n) (hd : decode cc pc = .ok (.invokevirtual idx, 3)) (hv : ax_vm md 6) (hl : Cond.methodLink own idx md.1 ∈ ax_big) (hs : ax_shp o = (4, ci, fs)) (hci : vwCl[ci]? = some (md.1.cls, T, N)) (hc : CT X.g md d [aR o, a0, a1, a2, a3, a4, a5] M (pIR v F)) (hdn : d + 1 ≤ n) (hrs : ax_rs rest ≤ 8) (kk : ∀ M2, F M2 → AW X (pc + 3) lv (aI v :: rest) M2) : AW X pc lv (a5 :: a4 :: a3 :: a2 :: a1 :: a0 :: aR o :: rest) M :=
  rc_VIR (As := [a0, a1, a2, a3, a4, a5]) B hd hv hl hs hci hc hdn rfl hrs rfl kk
theorem rc_VL0 {md : ax_Md} {idx d o ci : Nat} {fs : List (Option Nat)} {T : u_T} {N : Nat} {M2 : ax_M} {v : Int} (B : ax_b X cc own n) (hd : decode cc pc = .ok (.invokevirtual idx, 3)) (hv : ax_vm md 0) (hl : Cond.methodLink own idx md.1 ∈ ax_big) (hs : ax_shp o = (4, ci, fs)) (hci : vwCl[ci]? = some (md.1.cls, T, N)) (hc : CT X.g md d [aR o] M (pL v M2)) (hdn : d + 1 ≤ n) (hrs : ax_rs rest ≤ 8) (kk : AW X (pc + 3) lv (aL v :: rest) M2) : AW X pc lv (aR o :: rest) M :=
  rc_VL (As := []) B hd hv hl hs hci hc hdn rfl hrs rfl kk
theorem rc_VLR0 {md : ax_Md} {idx d o ci : Nat} {fs : List (Option Nat)} {T : u_T} {N : Nat} {F : ax_M → Prop} {v : Int} (B : ax_b X cc own n) (hd : decode cc pc = .ok (.invokevirtual idx, 3)) (hv : ax_vm md 0) (hl : Cond.methodLink own idx md.1 ∈ ax_big) (hs : ax_shp o = (4, ci, fs)) (hci : vwCl[ci]? = some (md.1.cls, T, N)) (hc : CT X.g md d [aR o] M (pLR v F)) (hdn : d + 1 ≤ n) (hrs : ax_rs rest ≤ 8) (kk : ∀ M2, F M2 → AW X (pc + 3) lv (aL v :: rest) M2) : AW X pc lv (aR o :: rest) M :=
  rc_VLR (As := []) B hd hv hl hs hci hc hdn rfl hrs rfl kk
theorem rc_VL1 {md : ax_Md} {idx d o ci : Nat} {a0 : ax_V} {fs : List (Option Nat)} {T : u_T} {N : Nat} {M2 : ax_M} {v : Int} (B : ax_b X cc own n) (hd : decode cc pc = .ok (.invokevirtual idx, 3)) (hv : ax_vm md 1) (hl : Cond.methodLink own idx md.1 ∈ ax_big) (hs : ax_shp o = (4, ci, fs)) (hci : vwCl[ci]? = some (md.1.cls, T, N)) (hc : CT X.g md d [aR o, a0] M (pL v M2)) (hdn : d + 1 ≤ n) (hrs : ax_rs rest ≤ 8) (kk : AW X (pc + 3) lv (aL v :: rest) M2) : AW X pc lv (a0 :: aR o :: rest) M :=
  rc_VL (As := [a0]) B hd hv hl hs hci hc hdn rfl hrs rfl kk
theorem rc_VLR1 {md : ax_Md} {idx d o ci : Nat} {a0 : ax_V} {fs : List (Option Nat)} {T : u_T} {N : Nat} {F : ax_M → Prop} {v : Int} (B : ax_b X cc own n) (hd : decode cc pc = .ok (.invokevirtual idx, 3)) (hv : ax_vm md 1) (hl : Cond.methodLink own idx md.1 ∈ ax_big) (hs : ax_shp o = (4, ci, fs)) (hci : vwCl[ci]? = some (md.1.cls, T, N)) (hc : CT X.g md d [aR o, a0] M (pLR v F)) (hdn : d + 1 ≤ n) (hrs : ax_rs rest ≤ 8) (kk : ∀ M2, F M2 → AW X (pc + 3) lv (aL v :: rest) M2) : AW X pc lv (a0 :: aR o :: rest) M :=
  rc_VLR (As := [a0]) B hd hv hl hs hci hc hdn rfl hrs rfl kk
theorem rc_VL2 {md : ax_Md} {idx d o ci : Nat} {a0 a1 : ax_V} {fs : List (Option Nat)} {T : u_T} {N : Nat} {M2 : ax_M} {v : Int} (B : ax_b X cc own n) (hd : decode cc pc = .ok (.invokevirtual idx, 3)) (hv : ax_vm md 2) (hl : Cond.methodLink own idx md.1 ∈ ax_big) (hs : ax_shp o = (4, ci, fs)) (hci : vwCl[ci]? = some (md.1.cls, T, N)) (hc : CT X.g md d [aR o, a0, a1] M (pL v M2)) (hdn : d + 1 ≤ n) (hrs : ax_rs rest ≤ 8) (kk : AW X (pc + 3) lv (aL v :: rest) M2) : AW X pc lv (a1 :: a0 :: aR o :: rest) M :=
  rc_VL (As := [a0, a1]) B hd hv hl hs hci hc hdn rfl hrs rfl kk
theorem rc_VLR2 {md : ax_Md} {idx d o ci : Nat} {a0 a1 : ax_V} {fs : List (Option Nat)} {T : u_T} {N : Nat} {F : ax_M → Prop} {v : Int} (B : ax_b X cc own n) (hd : decode cc pc = .ok (.invokevirtual idx, 3)) (hv : ax_vm md 2) (hl : Cond.methodLink own idx md.1 ∈ ax_big) (hs : ax_shp o = (4, ci, fs)) (hci : vwCl[ci]? = some (md.1.cls, T, N)) (hc : CT X.g md d [aR o, a0, a1] M (pLR v F)) (hdn : d + 1 ≤ n) (hrs : ax_rs rest ≤ 8) (kk : ∀ M2, F M2 → AW X (pc + 3) lv (aL v :: rest) M2) : AW X pc lv (a1 :: a0 :: aR o :: rest) M :=
  rc_VLR (As := [a0, a1]) B hd hv hl hs hci hc hdn rfl hrs rfl kk
theorem rc_VL3 {md : ax_Md} {idx d o ci : Nat} {a0 a1 a2 : ax_V} {fs : List (Option Nat)} {T : u_T} {N : Nat} {M2 : ax_M} {v : Int} (B : ax_b X cc own n) (hd : decode cc pc = .ok (.invokevirtual idx, 3)) (hv : ax_vm md 3) (hl : Cond.methodLink own idx md.1 ∈ ax_big) (hs : ax_shp o = (4, ci, fs)) (hci : vwCl[ci]? = some (md.1.cls, T, N)) (hc : CT X.g md d [aR o, a0, a1, a2] M (pL v M2)) (hdn : d + 1 ≤ n) (hrs : ax_rs rest ≤ 8) (kk : AW X (pc + 3) lv (aL v :: rest) M2) : AW X pc lv (a2 :: a1 :: a0 :: aR o :: rest) M :=
  rc_VL (As := [a0, a1, a2]) B hd hv hl hs hci hc hdn rfl hrs rfl kk
theorem rc_VLR3 {md : ax_Md} {idx d o ci : Nat} {a0 a1 a2 : ax_V} {fs : List (Option Nat)} {T : u_T} {N : Nat} {F : ax_M → Prop} {v : Int} (B : ax_b X cc own n) (hd : decode cc pc = .ok (.invokevirtual idx, 3)) (hv : ax_vm md 3) (hl : Cond.methodLink own idx md.1 ∈ ax_big) (hs : ax_shp o = (4, ci, fs)) (hci : vwCl[ci]? = some (md.1.cls, T, N)) (hc : CT X.g md d [aR o, a0, a1, a2] M (pLR v F)) (hdn : d + 1 ≤ n) (hrs : ax_rs rest ≤ 8) (kk : ∀ M2, F M2 → AW X (pc + 3) lv (aL v :: rest) M2) : AW X pc lv (a2 :: a1 :: a0 :: aR o :: rest) M :=
  rc_VLR (As := [a0, a1, a2]) B hd hv hl hs hci hc hdn rfl hrs rfl kk
theorem rc_VL4 {md : ax_Md} {idx d o ci : Nat} {a0 a1 a2 a3 : ax_V} {fs : List (Option Nat)} {T : u_T} {N : Nat} {M2 : ax_M} {v : Int} (B : ax_b X cc own n) (hd : decode cc pc = .ok (.invokevirtual idx, 3)) (hv : ax_vm md 4) (hl : Cond.methodLink own idx md.1 ∈ ax_big) (hs : ax_shp o = (4, ci, fs)) (hci : vwCl[ci]? = some (md.1.cls, T, N)) (hc : CT X.g md d [aR o, a0, a1, a2, a3] M (pL v M2)) (hdn : d + 1 ≤ n) (hrs : ax_rs rest ≤ 8) (kk : AW X (pc + 3) lv (aL v :: rest) M2) : AW X pc lv (a3 :: a2 :: a1 :: a0 :: aR o :: rest) M :=
  rc_VL (As := [a0, a1, a2, a3]) B hd hv hl hs hci hc hdn rfl hrs rfl kk
theorem rc_VLR4 {md : ax_Md} {idx d o ci : Nat} {a0 a1 a2 a3 : ax_V} {fs : List (Option Nat)} {T : u_T} {N : Nat} {F : ax_M → Prop} {v : Int} (B : ax_b X cc own n) (hd : decode cc pc = .ok (.invokevirtual idx, 3)) (hv : ax_vm md 4) (hl : Cond.methodLink own idx md.1 ∈ ax_big) (hs : ax_shp o = (4, ci, fs)) (hci : vwCl[ci]? = some (md.1.cls, T, N)) (hc : CT X.g md d [aR o, a0, a1, a2, a3] M (pLR v F)) (hdn : d + 1 ≤ n) (hrs : ax_rs rest ≤ 8) (kk : ∀ M2, F M2 → AW X (pc + 3) lv (aL v :: rest) M2) : AW X pc lv (a3 :: a2 :: a1 :: a0 :: aR o :: rest) M :=
  rc_VLR (As := [a0, a1, a2, a3]) B hd hv hl hs hci hc hdn rfl hrs rfl kk
theorem rc_VL5 {md : ax_Md} {idx d o ci : Nat} {a0 a1 a2 a3 a4 : ax_V} {fs : List (Option Nat)} {T : u_T} {N : Nat} {M2 : ax_M} {v : Int} (B : ax_b X cc own n) (hd : decode cc pc = .ok (.invokevirtual idx, 3)) (hv : ax_vm md 5) (hl : Cond.methodLink own idx md.1 ∈ ax_big) (hs : ax_shp o = (4, ci, fs)) (hci : vwCl[ci]? = some (md.1.cls, T, N)) (hc : CT X.g md d [aR o, a0, a1, a2, a3, a4] M (pL v M2)) (hdn : d + 1 ≤ n) (hrs : ax_rs rest ≤ 8) (kk : AW X (pc + 3) lv (aL v :: rest) M2) : AW X pc lv (a4 :: a3 :: a2 :: a1 :: a0 :: aR o :: rest) M :=
  rc_VL (As := [a0, a1, a2, a3, a4]) B hd hv hl hs hci hc hdn rfl hrs rfl kk
theorem rc_VLR5 {md : ax_Md} {idx d o ci : Nat} {a0 a1 a2 a3 a4 : ax_V} {fs : List (Option Nat)} {T : u_T} {N : Nat} {F : ax_M → Prop} {v : Int} (B : ax_b X cc own n) (hd : decode cc pc = .ok (.invokevirtual idx, 3)) (hv : ax_vm md 5) (hl : Cond.methodLink own idx md.1 ∈ ax_big) (hs : ax_shp o = (4, ci, fs)) (hci : vwCl[ci]? = some (md.1.cls, T, N)) (hc : CT X.g md d [aR o, a0, a1, a2, a3, a4] M (pLR v F)) (hdn : d + 1 ≤ n) (hrs : ax_rs rest ≤ 8) (kk : ∀ M2, F M2 → AW X (pc + 3) lv (aL v :: rest) M2) : AW X pc lv (a4 :: a3 :: a2 :: a1 :: a0 :: aR o :: rest) M :=
  rc_VLR (As := [a0, a1, a2, a3, a4]) B hd hv hl hs hci hc hdn rfl hrs rfl kk
theorem rc_VL6 {md : ax_Md} {idx d o ci : Nat} {a0 a1 a2 a3 a4 a5 : ax_V} {fs : List (Option Nat)} {T : u_T} {N : Nat} {M2 : ax_M} {v : Int} (B : ax_b X cc own n) (hd : decode cc pc = .ok (.invokevirtual idx, 3)) (hv : ax_vm md 6) (hl : Cond.methodLink own idx md.1 ∈ ax_big) (hs : ax_shp o = (4, ci, fs)) (hci : vwCl[ci]? = some (md.1.cls, T, N)) (hc : CT X.g md d [aR o, a0, a1, a2, a3, a4, a5] M (pL v M2)) (hdn : d + 1 ≤ n) (hrs : ax_rs rest ≤ 8) (kk : AW X (pc + 3) lv (aL v :: rest) M2) : AW X pc lv (a5 :: a4 :: a3 :: a2 :: a1 :: a0 :: aR o :: rest) M :=
  rc_VL (As := [a0, a1, a2, a3, a4, a5]) B hd hv hl hs hci hc hdn rfl hrs rfl kk
theorem rc_VLR6 {md : ax_Md} {idx d o ci : Nat} {a0 a1 a2 a3 a4 a5 : ax_V} {fs : List (Option Nat)} {T : u_T} {N : Nat} {F : ax_M → Prop} {v : Int} (B : ax_b X cc own n) (hd : decode cc pc = .ok (.invokevirtual idx, 3)) (hv : ax_vm md 6) (hl : Cond.methodLink own idx md.1 ∈ ax_big) (hs : ax_shp o = (4, ci, fs)) (hci : vwCl[ci]? = some (md.1.cls, T, N)) (hc : CT X.g md d [aR o, a0, a1, a2, a3, a4, a5] M (pLR v F)) (hdn : d + 1 ≤ n) (hrs : ax_rs rest ≤ 8) (kk : ∀ M2, F M2 → AW X (pc + 3) lv (aL v :: rest) M2) : AW X pc lv (a5 :: a4 :: a3 :: a2 :: a1 :: a0 :: aR o :: rest) M :=
  rc_VLR (As := [a0, a1, a2, a3, a4, a5]) B hd hv hl hs hci hc hdn rfl hrs rfl kk
theorem rc_VV0 {md : ax_Md} {idx d o ci : Nat} {fs : List (Option Nat)} {T : u_T} {N : Nat} {M2 : ax_M} (B : ax_b X cc own n) (hd : decode cc pc = .ok (.invokevirtual idx, 3)) (hv : ax_vm md 0) (hl : Cond.methodLink own idx md.1 ∈ ax_big) (hs : ax_shp o = (4, ci, fs)) (hci : vwCl[ci]? = some (md.1.cls, T, N)) (hc : CT X.g md d [aR o] M (pV M2)) (hdn : d + 1 ≤ n) (hrs : ax_rs rest ≤ 8) (kk : AW X (pc + 3) lv (rest) M2) : AW X pc lv (aR o :: rest) M :=
  rc_VV (As := []) B hd hv hl hs hci hc hdn rfl hrs rfl kk
theorem rc_VVR0 {md : ax_Md} {idx d o ci : Nat} {fs : List (Option Nat)} {T : u_T} {N : Nat} {F : ax_M → Prop} (B : ax_b X cc own n) (hd : decode cc pc = .ok (.invokevirtual idx, 3)) (hv : ax_vm md 0) (hl : Cond.methodLink own idx md.1 ∈ ax_big) (hs : ax_shp o = (4, ci, fs)) (hci : vwCl[ci]? = some (md.1.cls, T, N)) (hc : CT X.g md d [aR o] M (pVR F)) (hdn : d + 1 ≤ n) (hrs : ax_rs rest ≤ 8) (kk : ∀ M2, F M2 → AW X (pc + 3) lv (rest) M2) : AW X pc lv (aR o :: rest) M :=
  rc_VVR (As := []) B hd hv hl hs hci hc hdn rfl hrs rfl kk
theorem rc_VV1 {md : ax_Md} {idx d o ci : Nat} {a0 : ax_V} {fs : List (Option Nat)} {T : u_T} {N : Nat} {M2 : ax_M} (B : ax_b X cc own n) (hd : decode cc pc = .ok (.invokevirtual idx, 3)) (hv : ax_vm md 1) (hl : Cond.methodLink own idx md.1 ∈ ax_big) (hs : ax_shp o = (4, ci, fs)) (hci : vwCl[ci]? = some (md.1.cls, T, N)) (hc : CT X.g md d [aR o, a0] M (pV M2)) (hdn : d + 1 ≤ n) (hrs : ax_rs rest ≤ 8) (kk : AW X (pc + 3) lv (rest) M2) : AW X pc lv (a0 :: aR o :: rest) M :=
  rc_VV (As := [a0]) B hd hv hl hs hci hc hdn rfl hrs rfl kk
theorem rc_VVR1 {md : ax_Md} {idx d o ci : Nat} {a0 : ax_V} {fs : List (Option Nat)} {T : u_T} {N : Nat} {F : ax_M → Prop} (B : ax_b X cc own n) (hd : decode cc pc = .ok (.invokevirtual idx, 3)) (hv : ax_vm md 1) (hl : Cond.methodLink own idx md.1 ∈ ax_big) (hs : ax_shp o = (4, ci, fs)) (hci : vwCl[ci]? = some (md.1.cls, T, N)) (hc : CT X.g md d [aR o, a0] M (pVR F)) (hdn : d + 1 ≤ n) (hrs : ax_rs rest ≤ 8) (kk : ∀ M2, F M2 → AW X (pc + 3) lv (rest) M2) : AW X pc lv (a0 :: aR o :: rest) M :=
  rc_VVR (As := [a0]) B hd hv hl hs hci hc hdn rfl hrs rfl kk
theorem rc_VV2 {md : ax_Md} {idx d o ci : Nat} {a0 a1 : ax_V} {fs : List (Option Nat)} {T : u_T} {N : Nat} {M2 : ax_M} (B : ax_b X cc own n) (hd : decode cc pc = .ok (.invokevirtual idx, 3)) (hv : ax_vm md 2) (hl : Cond.methodLink own idx md.1 ∈ ax_big) (hs : ax_shp o = (4, ci, fs)) (hci : vwCl[ci]? = some (md.1.cls, T, N)) (hc : CT X.g md d [aR o, a0, a1] M (pV M2)) (hdn : d + 1 ≤ n) (hrs : ax_rs rest ≤ 8) (kk : AW X (pc + 3) lv (rest) M2) : AW X pc lv (a1 :: a0 :: aR o :: rest) M :=
  rc_VV (As := [a0, a1]) B hd hv hl hs hci hc hdn rfl hrs rfl kk
theorem rc_VVR2 {md : ax_Md} {idx d o ci : Nat} {a0 a1 : ax_V} {fs : List (Option Nat)} {T : u_T} {N : Nat} {F : ax_M → Prop} (B : ax_b X cc own n) (hd : decode cc pc = .ok (.invokevirtual idx, 3)) (hv : ax_vm md 2) (hl : Cond.methodLink own idx md.1 ∈ ax_big) (hs : ax_shp o = (4, ci, fs)) (hci : vwCl[ci]? = some (md.1.cls, T, N)) (hc : CT X.g md d [aR o, a0, a1] M (pVR F)) (hdn : d + 1 ≤ n) (hrs : ax_rs rest ≤ 8) (kk : ∀ M2, F M2 → AW X (pc + 3) lv (rest) M2) : AW X pc lv (a1 :: a0 :: aR o :: rest) M :=
  rc_VVR (As := [a0, a1]) B hd hv hl hs hci hc hdn rfl hrs rfl kk
theorem rc_VV3 {md : ax_Md} {idx d o ci : Nat} {a0 a1 a2 : ax_V} {fs : List (Option Nat)} {T : u_T} {N : Nat} {M2 : ax_M} (B : ax_b X cc own n) (hd : decode cc pc = .ok (.invokevirtual idx, 3)) (hv : ax_vm md 3) (hl : Cond.methodLink own idx md.1 ∈ ax_big) (hs : ax_shp o = (4, ci, fs)) (hci : vwCl[ci]? = some (md.1.cls, T, N)) (hc : CT X.g md d [aR o, a0, a1, a2] M (pV M2)) (hdn : d + 1 ≤ n) (hrs : ax_rs rest ≤ 8) (kk : AW X (pc + 3) lv (rest) M2) : AW X pc lv (a2 :: a1 :: a0 :: aR o :: rest) M :=
  rc_VV (As := [a0, a1, a2]) B hd hv hl hs hci hc hdn rfl hrs rfl kk
theorem rc_VVR3 {md : ax_Md} {idx d o ci : Nat} {a0 a1 a2 : ax_V} {fs : List (Option Nat)} {T : u_T} {N : Nat} {F : ax_M → Prop} (B : ax_b X cc own n) (hd : decode cc pc = .ok (.invokevirtual idx, 3)) (hv : ax_vm md 3) (hl : Cond.methodLink own idx md.1 ∈ ax_big) (hs : ax_shp o = (4, ci, fs)) (hci : vwCl[ci]? = some (md.1.cls, T, N)) (hc : CT X.g md d [aR o, a0, a1, a2] M (pVR F)) (hdn : d + 1 ≤ n) (hrs : ax_rs rest ≤ 8) (kk : ∀ M2, F M2 → AW X (pc + 3) lv (rest) M2) : AW X pc lv (a2 :: a1 :: a0 :: aR o :: rest) M :=
  rc_VVR (As := [a0, a1, a2]) B hd hv hl hs hci hc hdn rfl hrs rfl kk
theorem rc_VV4 {md : ax_Md} {idx d o ci : Nat} {a0 a1 a2 a3 : ax_V} {fs : List (Option Nat)} {T : u_T} {N : Nat} {M2 : ax_M} (B : ax_b X cc own n) (hd : decode cc pc = .ok (.invokevirtual idx, 3)) (hv : ax_vm md 4) (hl : Cond.methodLink own idx md.1 ∈ ax_big) (hs : ax_shp o = (4, ci, fs)) (hci : vwCl[ci]? = some (md.1.cls, T, N)) (hc : CT X.g md d [aR o, a0, a1, a2, a3] M (pV M2)) (hdn : d + 1 ≤ n) (hrs : ax_rs rest ≤ 8) (kk : AW X (pc + 3) lv (rest) M2) : AW X pc lv (a3 :: a2 :: a1 :: a0 :: aR o :: rest) M :=
  rc_VV (As := [a0, a1, a2, a3]) B hd hv hl hs hci hc hdn rfl hrs rfl kk
theorem rc_VVR4 {md : ax_Md} {idx d o ci : Nat} {a0 a1 a2 a3 : ax_V} {fs : List (Option Nat)} {T : u_T} {N : Nat} {F : ax_M → Prop} (B : ax_b X cc own n) (hd : decode cc pc = .ok (.invokevirtual idx, 3)) (hv : ax_vm md 4) (hl : Cond.methodLink own idx md.1 ∈ ax_big) (hs : ax_shp o = (4, ci, fs)) (hci : vwCl[ci]? = some (md.1.cls, T, N)) (hc : CT X.g md d [aR o, a0, a1, a2, a3] M (pVR F)) (hdn : d + 1 ≤ n) (hrs : ax_rs rest ≤ 8) (kk : ∀ M2, F M2 → AW X (pc + 3) lv (rest) M2) : AW X pc lv (a3 :: a2 :: a1 :: a0 :: aR o :: rest) M :=
  rc_VVR (As := [a0, a1, a2, a3]) B hd hv hl hs hci hc hdn rfl hrs rfl kk
theorem rc_VV5 {md : ax_Md} {idx d o ci : Nat} {a0 a1 a2 a3 a4 : ax_V} {fs : List (Option Nat)} {T : u_T} {N : Nat} {M2 : ax_M} (B : ax_b X cc own n) (hd : decode cc pc = .ok (.invokevirtual idx, 3)) (hv : ax_vm md 5) (hl : Cond.methodLink own idx md.1 ∈ ax_big) (hs : ax_shp o = (4, ci, fs)) (hci : vwCl[ci]? = some (md.1.cls, T, N)) (hc : CT X.g md d [aR o, a0, a1, a2, a3, a4] M (pV M2)) (hdn : d + 1 ≤ n) (hrs : ax_rs rest ≤ 8) (kk : AW X (pc + 3) lv (rest) M2) : AW X pc lv (a4 :: a3 :: a2 :: a1 :: a0 :: aR o :: rest) M :=
  rc_VV (As := [a0, a1, a2, a3, a4]) B hd hv hl hs hci hc hdn rfl hrs rfl kk
theorem rc_VVR5 {md : ax_Md} {idx d o ci : Nat} {a0 a1 a2 a3 a4 : ax_V} {fs : List (Option Nat)} {T : u_T} {N : Nat} {F : ax_M → Prop} (B : ax_b X cc own n) (hd : decode cc pc = .ok (.invokevirtual idx, 3)) (hv : ax_vm md 5) (hl : Cond.methodLink own idx md.1 ∈ ax_big) (hs : ax_shp o = (4, ci, fs)) (hci : vwCl[ci]? = some (md.1.cls, T, N)) (hc : CT X.g md d [aR o, a0, a1, a2, a3, a4] M (pVR F)) (hdn : d + 1 ≤ n) (hrs : ax_rs rest ≤ 8) (kk : ∀ M2, F M2 → AW X (pc + 3) lv (rest) M2) : AW X pc lv (a4 :: a3 :: a2 :: a1 :: a0 :: aR o :: rest) M :=
  rc_VVR (As := [a0, a1, a2, a3, a4]) B hd hv hl hs hci hc hdn rfl hrs rfl kk
theorem rc_VV6 {md : ax_Md} {idx d o ci : Nat} {a0 a1 a2 a3 a4 a5 : ax_V} {fs : List (Option Nat)} {T : u_T} {N : Nat} {M2 : ax_M} (B : ax_b X cc own n) (hd : decode cc pc = .ok (.invokevirtual idx, 3)) (hv : ax_vm md 6) (hl : Cond.methodLink own idx md.1 ∈ ax_big) (hs : ax_shp o = (4, ci, fs)) (hci : vwCl[ci]? = some (md.1.cls, T, N)) (hc : CT X.g md d [aR o, a0, a1, a2, a3, a4, a5] M (pV M2)) (hdn : d + 1 ≤ n) (hrs : ax_rs rest ≤ 8) (kk : AW X (pc + 3) lv (rest) M2) : AW X pc lv (a5 :: a4 :: a3 :: a2 :: a1 :: a0 :: aR o :: rest) M :=
  rc_VV (As := [a0, a1, a2, a3, a4, a5]) B hd hv hl hs hci hc hdn rfl hrs rfl kk
theorem rc_VVR6 {md : ax_Md} {idx d o ci : Nat} {a0 a1 a2 a3 a4 a5 : ax_V} {fs : List (Option Nat)} {T : u_T} {N : Nat} {F : ax_M → Prop} (B : ax_b X cc own n) (hd : decode cc pc = .ok (.invokevirtual idx, 3)) (hv : ax_vm md 6) (hl : Cond.methodLink own idx md.1 ∈ ax_big) (hs : ax_shp o = (4, ci, fs)) (hci : vwCl[ci]? = some (md.1.cls, T, N)) (hc : CT X.g md d [aR o, a0, a1, a2, a3, a4, a5] M (pVR F)) (hdn : d + 1 ≤ n) (hrs : ax_rs rest ≤ 8) (kk : ∀ M2, F M2 → AW X (pc + 3) lv (rest) M2) : AW X pc lv (a5 :: a4 :: a3 :: a2 :: a1 :: a0 :: aR o :: rest) M :=
  rc_VVR (As := [a0, a1, a2, a3, a4, a5]) B hd hv hl hs hci hc hdn rfl hrs rfl kk
theorem rc_SI0 {md : ax_Md} {idx d : Nat} {M2 : ax_M} {v : Int} (B : ax_b X cc own n) (hd : decode cc pc = .ok (.invokestatic idx, 3)) (hv : ax_st md 0) (hl : Cond.methodLink own idx md.1 ∈ ax_big) (hc : CT X.g md d [] M (pI v M2)) (hdn : d + 1 ≤ n) (hrs : ax_rs rest ≤ 8) (kk : AW X (pc + 3) lv (aI v :: rest) M2) : AW X pc lv (rest) M :=
  rc_SI (As := []) B hd hv hl hc hdn rfl hrs rfl kk
theorem rc_SIR0 {md : ax_Md} {idx d : Nat} {F : ax_M → Prop} {v : Int} (B : ax_b X cc own n) (hd : decode cc pc = .ok (.invokestatic idx, 3)) (hv : ax_st md 0) (hl : Cond.methodLink own idx md.1 ∈ ax_big) (hc : CT X.g md d [] M (pIR v F)) (hdn : d + 1 ≤ n) (hrs : ax_rs rest ≤ 8) (kk : ∀ M2, F M2 → AW X (pc + 3) lv (aI v :: rest) M2) : AW X pc lv (rest) M :=
  rc_SIR (As := []) B hd hv hl hc hdn rfl hrs rfl kk
theorem rc_SI1 {md : ax_Md} {idx d : Nat} {a0 : ax_V} {M2 : ax_M} {v : Int} (B : ax_b X cc own n) (hd : decode cc pc = .ok (.invokestatic idx, 3)) (hv : ax_st md 1) (hl : Cond.methodLink own idx md.1 ∈ ax_big) (hc : CT X.g md d [a0] M (pI v M2)) (hdn : d + 1 ≤ n) (hrs : ax_rs rest ≤ 8) (kk : AW X (pc + 3) lv (aI v :: rest) M2) : AW X pc lv (a0 :: rest) M :=
  rc_SI (As := [a0]) B hd hv hl hc hdn rfl hrs rfl kk
theorem rc_SIR1 {md : ax_Md} {idx d : Nat} {a0 : ax_V} {F : ax_M → Prop} {v : Int} (B : ax_b X cc own n) (hd : decode cc pc = .ok (.invokestatic idx, 3)) (hv : ax_st md 1) (hl : Cond.methodLink own idx md.1 ∈ ax_big) (hc : CT X.g md d [a0] M (pIR v F)) (hdn : d + 1 ≤ n) (hrs : ax_rs rest ≤ 8) (kk : ∀ M2, F M2 → AW X (pc + 3) lv (aI v :: rest) M2) : AW X pc lv (a0 :: rest) M :=
  rc_SIR (As := [a0]) B hd hv hl hc hdn rfl hrs rfl kk
theorem rc_SI2 {md : ax_Md} {idx d : Nat} {a0 a1 : ax_V} {M2 : ax_M} {v : Int} (B : ax_b X cc own n) (hd : decode cc pc = .ok (.invokestatic idx, 3)) (hv : ax_st md 2) (hl : Cond.methodLink own idx md.1 ∈ ax_big) (hc : CT X.g md d [a0, a1] M (pI v M2)) (hdn : d + 1 ≤ n) (hrs : ax_rs rest ≤ 8) (kk : AW X (pc + 3) lv (aI v :: rest) M2) : AW X pc lv (a1 :: a0 :: rest) M :=
  rc_SI (As := [a0, a1]) B hd hv hl hc hdn rfl hrs rfl kk
theorem rc_SIR2 {md : ax_Md} {idx d : Nat} {a0 a1 : ax_V} {F : ax_M → Prop} {v : Int} (B : ax_b X cc own n) (hd : decode cc pc = .ok (.invokestatic idx, 3)) (hv : ax_st md 2) (hl : Cond.methodLink own idx md.1 ∈ ax_big) (hc : CT X.g md d [a0, a1] M (pIR v F)) (hdn : d + 1 ≤ n) (hrs : ax_rs rest ≤ 8) (kk : ∀ M2, F M2 → AW X (pc + 3) lv (aI v :: rest) M2) : AW X pc lv (a1 :: a0 :: rest) M :=
  rc_SIR (As := [a0, a1]) B hd hv hl hc hdn rfl hrs rfl kk
theorem rc_SI3 {md : ax_Md} {idx d : Nat} {a0 a1 a2 : ax_V} {M2 : ax_M} {v : Int} (B : ax_b X cc own n) (hd : decode cc pc = .ok (.invokestatic idx, 3)) (hv : ax_st md 3) (hl : Cond.methodLink own idx md.1 ∈ ax_big) (hc : CT X.g md d [a0, a1, a2] M (pI v M2)) (hdn : d + 1 ≤ n) (hrs : ax_rs rest ≤ 8) (kk : AW X (pc + 3) lv (aI v :: rest) M2) : AW X pc lv (a2 :: a1 :: a0 :: rest) M :=
  rc_SI (As := [a0, a1, a2]) B hd hv hl hc hdn rfl hrs rfl kk
theorem rc_SIR3 {md : ax_Md} {idx d : Nat} {a0 a1 a2 : ax_V} {F : ax_M → Prop} {v : Int} (B : ax_b X cc own n) (hd : decode cc pc = .ok (.invokestatic idx, 3)) (hv : ax_st md 3) (hl : Cond.methodLink own idx md.1 ∈ ax_big) (hc : CT X.g md d [a0, a1, a2] M (pIR v F)) (hdn : d + 1 ≤ n) (hrs : ax_rs rest ≤ 8) (kk : ∀ M2, F M2 → AW X (pc + 3) lv (aI v :: rest) M2) : AW X pc lv (a2 :: a1 :: a0 :: rest) M :=
  rc_SIR (As := [a0, a1, a2]) B hd hv hl hc hdn rfl hrs rfl kk
theorem rc_SI4 {md : ax_Md} {idx d : Nat} {a0 a1 a2 a3 : ax_V} {M2 : ax_M} {v : Int} (B : ax_b X cc own n) (hd : decode cc pc = .ok (.invokestatic idx, 3)) (hv : ax_st md 4) (hl : Cond.methodLink own idx md.1 ∈ ax_big) (hc : CT X.g md d [a0, a1, a2, a3] M (pI v M2)) (hdn : d + 1 ≤ n) (hrs : ax_rs rest ≤ 8) (kk : AW X (pc + 3) lv (aI v :: rest) M2) : AW X pc lv (a3 :: a2 :: a1 :: a0 :: rest) M :=
  rc_SI (As := [a0, a1, a2, a3]) B hd hv hl hc hdn rfl hrs rfl kk
theorem rc_SIR4 {md : ax_Md} {idx d : Nat} {a0 a1 a2 a3 : ax_V} {F : ax_M → Prop} {v : Int} (B : ax_b X cc own n) (hd : decode cc pc = .ok (.invokestatic idx, 3)) (hv : ax_st md 4) (hl : Cond.methodLink own idx md.1 ∈ ax_big) (hc : CT X.g md d [a0, a1, a2, a3] M (pIR v F)) (hdn : d + 1 ≤ n) (hrs : ax_rs rest ≤ 8) (kk : ∀ M2, F M2 → AW X (pc + 3) lv (aI v :: rest) M2) : AW X pc lv (a3 :: a2 :: a1 :: a0 :: rest) M :=
  rc_SIR (As := [a0, a1, a2, a3]) B hd hv hl hc hdn rfl hrs rfl kk
theorem rc_SI5 {md : ax_Md} {idx d : Nat} {a0 a1 a2 a3 a4 : ax_V} {M2 : ax_M} {v : Int} (B : ax_b X cc own n) (hd : decode cc pc = .ok (.invokestatic idx, 3)) (hv : ax_st md 5) (hl : Cond.methodLink own idx md.1 ∈ ax_big) (hc : CT X.g md d [a0, a1, a2, a3, a4] M (pI v M2)) (hdn : d + 1 ≤ n) (hrs : ax_rs rest ≤ 8) (kk : AW X (pc + 3) lv (aI v :: rest) M2) : AW X pc lv (a4 :: a3 :: a2 :: a1 :: a0 :: rest) M :=
  rc_SI (As := [a0, a1, a2, a3, a4]) B hd hv hl hc hdn rfl hrs rfl kk
theorem rc_SIR5 {md : ax_Md} {idx d : Nat} {a0 a1 a2 a3 a4 : ax_V} {F : ax_M → Prop} {v : Int} (B : ax_b X cc own n) (hd : decode cc pc = .ok (.invokestatic idx, 3)) (hv : ax_st md 5) (hl : Cond.methodLink own idx md.1 ∈ ax_big) (hc : CT X.g md d [a0, a1, a2, a3, a4] M (pIR v F)) (hdn : d + 1 ≤ n) (hrs : ax_rs rest ≤ 8) (kk : ∀ M2, F M2 → AW X (pc + 3) lv (aI v :: rest) M2) : AW X pc lv (a4 :: a3 :: a2 :: a1 :: a0 :: rest) M :=
  rc_SIR (As := [a0, a1, a2, a3, a4]) B hd hv hl hc hdn rfl hrs rfl kk
theorem rc_SI6 {md : ax_Md} {idx d : Nat} {a0 a1 a2 a3 a4 a5 : ax_V} {M2 : ax_M} {v : Int} (B : ax_b X cc own n) (hd : decode cc pc = .ok (.invokestatic idx, 3)) (hv : ax_st md 6) (hl : Cond.methodLink own idx md.1 ∈ ax_big) (hc : CT X.g md d [a0, a1, a2, a3, a4, a5] M (pI v M2)) (hdn : d + 1 ≤ n) (hrs : ax_rs rest ≤ 8) (kk : AW X (pc + 3) lv (aI v :: rest) M2) : AW X pc lv (a5 :: a4 :: a3 :: a2 :: a1 :: a0 :: rest) M :=
  rc_SI (As := [a0, a1, a2, a3, a4, a5]) B hd hv hl hc hdn rfl hrs rfl kk
theorem rc_SIR6 {md : ax_Md} {idx d : Nat} {a0 a1 a2 a3 a4 a5 : ax_V} {F : ax_M → Prop} {v : Int} (B : ax_b X cc own n) (hd : decode cc pc = .ok (.invokestatic idx, 3)) (hv : ax_st md 6) (hl : Cond.methodLink own idx md.1 ∈ ax_big) (hc : CT X.g md d [a0, a1, a2, a3, a4, a5] M (pIR v F)) (hdn : d + 1 ≤ n) (hrs : ax_rs rest ≤ 8) (kk : ∀ M2, F M2 → AW X (pc + 3) lv (aI v :: rest) M2) : AW X pc lv (a5 :: a4 :: a3 :: a2 :: a1 :: a0 :: rest) M :=
  rc_SIR (As := [a0, a1, a2, a3, a4, a5]) B hd hv hl hc hdn rfl hrs rfl kk
theorem rc_SL0 {md : ax_Md} {idx d : Nat} {M2 : ax_M} {v : Int} (B : ax_b X cc own n) (hd : decode cc pc = .ok (.invokestatic idx, 3)) (hv : ax_st md 0) (hl : Cond.methodLink own idx md.1 ∈ ax_big) (hc : CT X.g md d [] M (pL v M2)) (hdn : d + 1 ≤ n) (hrs : ax_rs rest ≤ 8) (kk : AW X (pc + 3) lv (aL v :: rest) M2) : AW X pc lv (rest) M :=
  rc_SL (As := []) B hd hv hl hc hdn rfl hrs rfl kk
theorem rc_SLR0 {md : ax_Md} {idx d : Nat} {F : ax_M → Prop} {v : Int} (B : ax_b X cc own n) (hd : decode cc pc = .ok (.invokestatic idx, 3)) (hv : ax_st md 0) (hl : Cond.methodLink own idx md.1 ∈ ax_big) (hc : CT X.g md d [] M (pLR v F)) (hdn : d + 1 ≤ n) (hrs : ax_rs rest ≤ 8) (kk : ∀ M2, F M2 → AW X (pc + 3) lv (aL v :: rest) M2) : AW X pc lv (rest) M :=
  rc_SLR (As := []) B hd hv hl hc hdn rfl hrs rfl kk
theorem rc_SL1 {md : ax_Md} {idx d : Nat} {a0 : ax_V} {M2 : ax_M} {v : Int} (B : ax_b X cc own n) (hd : decode cc pc = .ok (.invokestatic idx, 3)) (hv : ax_st md 1) (hl : Cond.methodLink own idx md.1 ∈ ax_big) (hc : CT X.g md d [a0] M (pL v M2)) (hdn : d + 1 ≤ n) (hrs : ax_rs rest ≤ 8) (kk : AW X (pc + 3) lv (aL v :: rest) M2) : AW X pc lv (a0 :: rest) M :=
  rc_SL (As := [a0]) B hd hv hl hc hdn rfl hrs rfl kk
theorem rc_SLR1 {md : ax_Md} {idx d : Nat} {a0 : ax_V} {F : ax_M → Prop} {v : Int} (B : ax_b X cc own n) (hd : decode cc pc = .ok (.invokestatic idx, 3)) (hv : ax_st md 1) (hl : Cond.methodLink own idx md.1 ∈ ax_big) (hc : CT X.g md d [a0] M (pLR v F)) (hdn : d + 1 ≤ n) (hrs : ax_rs rest ≤ 8) (kk : ∀ M2, F M2 → AW X (pc + 3) lv (aL v :: rest) M2) : AW X pc lv (a0 :: rest) M :=
  rc_SLR (As := [a0]) B hd hv hl hc hdn rfl hrs rfl kk
theorem rc_SL2 {md : ax_Md} {idx d : Nat} {a0 a1 : ax_V} {M2 : ax_M} {v : Int} (B : ax_b X cc own n) (hd : decode cc pc = .ok (.invokestatic idx, 3)) (hv : ax_st md 2) (hl : Cond.methodLink own idx md.1 ∈ ax_big) (hc : CT X.g md d [a0, a1] M (pL v M2)) (hdn : d + 1 ≤ n) (hrs : ax_rs rest ≤ 8) (kk : AW X (pc + 3) lv (aL v :: rest) M2) : AW X pc lv (a1 :: a0 :: rest) M :=
  rc_SL (As := [a0, a1]) B hd hv hl hc hdn rfl hrs rfl kk
theorem rc_SLR2 {md : ax_Md} {idx d : Nat} {a0 a1 : ax_V} {F : ax_M → Prop} {v : Int} (B : ax_b X cc own n) (hd : decode cc pc = .ok (.invokestatic idx, 3)) (hv : ax_st md 2) (hl : Cond.methodLink own idx md.1 ∈ ax_big) (hc : CT X.g md d [a0, a1] M (pLR v F)) (hdn : d + 1 ≤ n) (hrs : ax_rs rest ≤ 8) (kk : ∀ M2, F M2 → AW X (pc + 3) lv (aL v :: rest) M2) : AW X pc lv (a1 :: a0 :: rest) M :=
  rc_SLR (As := [a0, a1]) B hd hv hl hc hdn rfl hrs rfl kk
theorem rc_SL3 {md : ax_Md} {idx d : Nat} {a0 a1 a2 : ax_V} {M2 : ax_M} {v : Int} (B : ax_b X cc own n) (hd : decode cc pc = .ok (.invokestatic idx, 3)) (hv : ax_st md 3) (hl : Cond.methodLink own idx md.1 ∈ ax_big) (hc : CT X.g md d [a0, a1, a2] M (pL v M2)) (hdn : d + 1 ≤ n) (hrs : ax_rs rest ≤ 8) (kk : AW X (pc + 3) lv (aL v :: rest) M2) : AW X pc lv (a2 :: a1 :: a0 :: rest) M :=
  rc_SL (As := [a0, a1, a2]) B hd hv hl hc hdn rfl hrs rfl kk
theorem rc_SLR3 {md : ax_Md} {idx d : Nat} {a0 a1 a2 : ax_V} {F : ax_M → Prop} {v : Int} (B : ax_b X cc own n) (hd : decode cc pc = .ok (.invokestatic idx, 3)) (hv : ax_st md 3) (hl : Cond.methodLink own idx md.1 ∈ ax_big) (hc : CT X.g md d [a0, a1, a2] M (pLR v F)) (hdn : d + 1 ≤ n) (hrs : ax_rs rest ≤ 8) (kk : ∀ M2, F M2 → AW X (pc + 3) lv (aL v :: rest) M2) : AW X pc lv (a2 :: a1 :: a0 :: rest) M :=
  rc_SLR (As := [a0, a1, a2]) B hd hv hl hc hdn rfl hrs rfl kk
theorem rc_SL4 {md : ax_Md} {idx d : Nat} {a0 a1 a2 a3 : ax_V} {M2 : ax_M} {v : Int} (B : ax_b X cc own n) (hd : decode cc pc = .ok (.invokestatic idx, 3)) (hv : ax_st md 4) (hl : Cond.methodLink own idx md.1 ∈ ax_big) (hc : CT X.g md d [a0, a1, a2, a3] M (pL v M2)) (hdn : d + 1 ≤ n) (hrs : ax_rs rest ≤ 8) (kk : AW X (pc + 3) lv (aL v :: rest) M2) : AW X pc lv (a3 :: a2 :: a1 :: a0 :: rest) M :=
  rc_SL (As := [a0, a1, a2, a3]) B hd hv hl hc hdn rfl hrs rfl kk
theorem rc_SLR4 {md : ax_Md} {idx d : Nat} {a0 a1 a2 a3 : ax_V} {F : ax_M → Prop} {v : Int} (B : ax_b X cc own n) (hd : decode cc pc = .ok (.invokestatic idx, 3)) (hv : ax_st md 4) (hl : Cond.methodLink own idx md.1 ∈ ax_big) (hc : CT X.g md d [a0, a1, a2, a3] M (pLR v F)) (hdn : d + 1 ≤ n) (hrs : ax_rs rest ≤ 8) (kk : ∀ M2, F M2 → AW X (pc + 3) lv (aL v :: rest) M2) : AW X pc lv (a3 :: a2 :: a1 :: a0 :: rest) M :=
  rc_SLR (As := [a0, a1, a2, a3]) B hd hv hl hc hdn rfl hrs rfl kk
theorem rc_SL5 {md : ax_Md} {idx d : Nat} {a0 a1 a2 a3 a4 : ax_V} {M2 : ax_M} {v : Int} (B : ax_b X cc own n) (hd : decode cc pc = .ok (.invokestatic idx, 3)) (hv : ax_st md 5) (hl : Cond.methodLink own idx md.1 ∈ ax_big) (hc : CT X.g md d [a0, a1, a2, a3, a4] M (pL v M2)) (hdn : d + 1 ≤ n) (hrs : ax_rs rest ≤ 8) (kk : AW X (pc + 3) lv (aL v :: rest) M2) : AW X pc lv (a4 :: a3 :: a2 :: a1 :: a0 :: rest) M :=
  rc_SL (As := [a0, a1, a2, a3, a4]) B hd hv hl hc hdn rfl hrs rfl kk
theorem rc_SLR5 {md : ax_Md} {idx d : Nat} {a0 a1 a2 a3 a4 : ax_V} {F : ax_M → Prop} {v : Int} (B : ax_b X cc own n) (hd : decode cc pc = .ok (.invokestatic idx, 3)) (hv : ax_st md 5) (hl : Cond.methodLink own idx md.1 ∈ ax_big) (hc : CT X.g md d [a0, a1, a2, a3, a4] M (pLR v F)) (hdn : d + 1 ≤ n) (hrs : ax_rs rest ≤ 8) (kk : ∀ M2, F M2 → AW X (pc + 3) lv (aL v :: rest) M2) : AW X pc lv (a4 :: a3 :: a2 :: a1 :: a0 :: rest) M :=
  rc_SLR (As := [a0, a1, a2, a3, a4]) B hd hv hl hc hdn rfl hrs rfl kk
theorem rc_SL6 {md : ax_Md} {idx d : Nat} {a0 a1 a2 a3 a4 a5 : ax_V} {M2 : ax_M} {v : Int} (B : ax_b X cc own n) (hd : decode cc pc = .ok (.invokestatic idx, 3)) (hv : ax_st md 6) (hl : Cond.methodLink own idx md.1 ∈ ax_big) (hc : CT X.g md d [a0, a1, a2, a3, a4, a5] M (pL v M2)) (hdn : d + 1 ≤ n) (hrs : ax_rs rest ≤ 8) (kk : AW X (pc + 3) lv (aL v :: rest) M2) : AW X pc lv (a5 :: a4 :: a3 :: a2 :: a1 :: a0 :: rest) M :=
  rc_SL (As := [a0, a1, a2, a3, a4, a5]) B hd hv hl hc hdn rfl hrs rfl kk
theorem rc_SLR6 {md : ax_Md} {idx d : Nat} {a0 a1 a2 a3 a4 a5 : ax_V} {F : ax_M → Prop} {v : Int} (B : ax_b X cc own n) (hd : decode cc pc = .ok (.invokestatic idx, 3)) (hv : ax_st md 6) (hl : Cond.methodLink own idx md.1 ∈ ax_big) (hc : CT X.g md d [a0, a1, a2, a3, a4, a5] M (pLR v F)) (hdn : d + 1 ≤ n) (hrs : ax_rs rest ≤ 8) (kk : ∀ M2, F M2 → AW X (pc + 3) lv (aL v :: rest) M2) : AW X pc lv (a5 :: a4 :: a3 :: a2 :: a1 :: a0 :: rest) M :=
  rc_SLR (As := [a0, a1, a2, a3, a4, a5]) B hd hv hl hc hdn rfl hrs rfl kk
theorem rc_SV0 {md : ax_Md} {idx d : Nat} {M2 : ax_M} (B : ax_b X cc own n) (hd : decode cc pc = .ok (.invokestatic idx, 3)) (hv : ax_st md 0) (hl : Cond.methodLink own idx md.1 ∈ ax_big) (hc : CT X.g md d [] M (pV M2)) (hdn : d + 1 ≤ n) (hrs : ax_rs rest ≤ 8) (kk : AW X (pc + 3) lv (rest) M2) : AW X pc lv (rest) M :=
  rc_SV (As := []) B hd hv hl hc hdn rfl hrs rfl kk
theorem rc_SVR0 {md : ax_Md} {idx d : Nat} {F : ax_M → Prop} (B : ax_b X cc own n) (hd : decode cc pc = .ok (.invokestatic idx, 3)) (hv : ax_st md 0) (hl : Cond.methodLink own idx md.1 ∈ ax_big) (hc : CT X.g md d [] M (pVR F)) (hdn : d + 1 ≤ n) (hrs : ax_rs rest ≤ 8) (kk : ∀ M2, F M2 → AW X (pc + 3) lv (rest) M2) : AW X pc lv (rest) M :=
  rc_SVR (As := []) B hd hv hl hc hdn rfl hrs rfl kk
theorem rc_SV1 {md : ax_Md} {idx d : Nat} {a0 : ax_V} {M2 : ax_M} (B : ax_b X cc own n) (hd : decode cc pc = .ok (.invokestatic idx, 3)) (hv : ax_st md 1) (hl : Cond.methodLink own idx md.1 ∈ ax_big) (hc : CT X.g md d [a0] M (pV M2)) (hdn : d + 1 ≤ n) (hrs : ax_rs rest ≤ 8) (kk : AW X (pc + 3) lv (rest) M2) : AW X pc lv (a0 :: rest) M :=
  rc_SV (As := [a0]) B hd hv hl hc hdn rfl hrs rfl kk
theorem rc_SVR1 {md : ax_Md} {idx d : Nat} {a0 : ax_V} {F : ax_M → Prop} (B : ax_b X cc own n) (hd : decode cc pc = .ok (.invokestatic idx, 3)) (hv : ax_st md 1) (hl : Cond.methodLink own idx md.1 ∈ ax_big) (hc : CT X.g md d [a0] M (pVR F)) (hdn : d + 1 ≤ n) (hrs : ax_rs rest ≤ 8) (kk : ∀ M2, F M2 → AW X (pc + 3) lv (rest) M2) : AW X pc lv (a0 :: rest) M :=
  rc_SVR (As := [a0]) B hd hv hl hc hdn rfl hrs rfl kk
theorem rc_SV2 {md : ax_Md} {idx d : Nat} {a0 a1 : ax_V} {M2 : ax_M} (B : ax_b X cc own n) (hd : decode cc pc = .ok (.invokestatic idx, 3)) (hv : ax_st md 2) (hl : Cond.methodLink own idx md.1 ∈ ax_big) (hc : CT X.g md d [a0, a1] M (pV M2)) (hdn : d + 1 ≤ n) (hrs : ax_rs rest ≤ 8) (kk : AW X (pc + 3) lv (rest) M2) : AW X pc lv (a1 :: a0 :: rest) M :=
  rc_SV (As := [a0, a1]) B hd hv hl hc hdn rfl hrs rfl kk
theorem rc_SVR2 {md : ax_Md} {idx d : Nat} {a0 a1 : ax_V} {F : ax_M → Prop} (B : ax_b X cc own n) (hd : decode cc pc = .ok (.invokestatic idx, 3)) (hv : ax_st md 2) (hl : Cond.methodLink own idx md.1 ∈ ax_big) (hc : CT X.g md d [a0, a1] M (pVR F)) (hdn : d + 1 ≤ n) (hrs : ax_rs rest ≤ 8) (kk : ∀ M2, F M2 → AW X (pc + 3) lv (rest) M2) : AW X pc lv (a1 :: a0 :: rest) M :=
  rc_SVR (As := [a0, a1]) B hd hv hl hc hdn rfl hrs rfl kk
theorem rc_SV3 {md : ax_Md} {idx d : Nat} {a0 a1 a2 : ax_V} {M2 : ax_M} (B : ax_b X cc own n) (hd : decode cc pc = .ok (.invokestatic idx, 3)) (hv : ax_st md 3) (hl : Cond.methodLink own idx md.1 ∈ ax_big) (hc : CT X.g md d [a0, a1, a2] M (pV M2)) (hdn : d + 1 ≤ n) (hrs : ax_rs rest ≤ 8) (kk : AW X (pc + 3) lv (rest) M2) : AW X pc lv (a2 :: a1 :: a0 :: rest) M :=
  rc_SV (As := [a0, a1, a2]) B hd hv hl hc hdn rfl hrs rfl kk
theorem rc_SVR3 {md : ax_Md} {idx d : Nat} {a0 a1 a2 : ax_V} {F : ax_M → Prop} (B : ax_b X cc own n) (hd : decode cc pc = .ok (.invokestatic idx, 3)) (hv : ax_st md 3) (hl : Cond.methodLink own idx md.1 ∈ ax_big) (hc : CT X.g md d [a0, a1, a2] M (pVR F)) (hdn : d + 1 ≤ n) (hrs : ax_rs rest ≤ 8) (kk : ∀ M2, F M2 → AW X (pc + 3) lv (rest) M2) : AW X pc lv (a2 :: a1 :: a0 :: rest) M :=
  rc_SVR (As := [a0, a1, a2]) B hd hv hl hc hdn rfl hrs rfl kk
theorem rc_SV4 {md : ax_Md} {idx d : Nat} {a0 a1 a2 a3 : ax_V} {M2 : ax_M} (B : ax_b X cc own n) (hd : decode cc pc = .ok (.invokestatic idx, 3)) (hv : ax_st md 4) (hl : Cond.methodLink own idx md.1 ∈ ax_big) (hc : CT X.g md d [a0, a1, a2, a3] M (pV M2)) (hdn : d + 1 ≤ n) (hrs : ax_rs rest ≤ 8) (kk : AW X (pc + 3) lv (rest) M2) : AW X pc lv (a3 :: a2 :: a1 :: a0 :: rest) M :=
  rc_SV (As := [a0, a1, a2, a3]) B hd hv hl hc hdn rfl hrs rfl kk
theorem rc_SVR4 {md : ax_Md} {idx d : Nat} {a0 a1 a2 a3 : ax_V} {F : ax_M → Prop} (B : ax_b X cc own n) (hd : decode cc pc = .ok (.invokestatic idx, 3)) (hv : ax_st md 4) (hl : Cond.methodLink own idx md.1 ∈ ax_big) (hc : CT X.g md d [a0, a1, a2, a3] M (pVR F)) (hdn : d + 1 ≤ n) (hrs : ax_rs rest ≤ 8) (kk : ∀ M2, F M2 → AW X (pc + 3) lv (rest) M2) : AW X pc lv (a3 :: a2 :: a1 :: a0 :: rest) M :=
  rc_SVR (As := [a0, a1, a2, a3]) B hd hv hl hc hdn rfl hrs rfl kk
theorem rc_SV5 {md : ax_Md} {idx d : Nat} {a0 a1 a2 a3 a4 : ax_V} {M2 : ax_M} (B : ax_b X cc own n) (hd : decode cc pc = .ok (.invokestatic idx, 3)) (hv : ax_st md 5) (hl : Cond.methodLink own idx md.1 ∈ ax_big) (hc : CT X.g md d [a0, a1, a2, a3, a4] M (pV M2)) (hdn : d + 1 ≤ n) (hrs : ax_rs rest ≤ 8) (kk : AW X (pc + 3) lv (rest) M2) : AW X pc lv (a4 :: a3 :: a2 :: a1 :: a0 :: rest) M :=
  rc_SV (As := [a0, a1, a2, a3, a4]) B hd hv hl hc hdn rfl hrs rfl kk
theorem rc_SVR5 {md : ax_Md} {idx d : Nat} {a0 a1 a2 a3 a4 : ax_V} {F : ax_M → Prop} (B : ax_b X cc own n) (hd : decode cc pc = .ok (.invokestatic idx, 3)) (hv : ax_st md 5) (hl : Cond.methodLink own idx md.1 ∈ ax_big) (hc : CT X.g md d [a0, a1, a2, a3, a4] M (pVR F)) (hdn : d + 1 ≤ n) (hrs : ax_rs rest ≤ 8) (kk : ∀ M2, F M2 → AW X (pc + 3) lv (rest) M2) : AW X pc lv (a4 :: a3 :: a2 :: a1 :: a0 :: rest) M :=
  rc_SVR (As := [a0, a1, a2, a3, a4]) B hd hv hl hc hdn rfl hrs rfl kk
theorem rc_SV6 {md : ax_Md} {idx d : Nat} {a0 a1 a2 a3 a4 a5 : ax_V} {M2 : ax_M} (B : ax_b X cc own n) (hd : decode cc pc = .ok (.invokestatic idx, 3)) (hv : ax_st md 6) (hl : Cond.methodLink own idx md.1 ∈ ax_big) (hc : CT X.g md d [a0, a1, a2, a3, a4, a5] M (pV M2)) (hdn : d + 1 ≤ n) (hrs : ax_rs rest ≤ 8) (kk : AW X (pc + 3) lv (rest) M2) : AW X pc lv (a5 :: a4 :: a3 :: a2 :: a1 :: a0 :: rest) M :=
  rc_SV (As := [a0, a1, a2, a3, a4, a5]) B hd hv hl hc hdn rfl hrs rfl kk
theorem rc_SVR6 {md : ax_Md} {idx d : Nat} {a0 a1 a2 a3 a4 a5 : ax_V} {F : ax_M → Prop} (B : ax_b X cc own n) (hd : decode cc pc = .ok (.invokestatic idx, 3)) (hv : ax_st md 6) (hl : Cond.methodLink own idx md.1 ∈ ax_big) (hc : CT X.g md d [a0, a1, a2, a3, a4, a5] M (pVR F)) (hdn : d + 1 ≤ n) (hrs : ax_rs rest ≤ 8) (kk : ∀ M2, F M2 → AW X (pc + 3) lv (rest) M2) : AW X pc lv (a5 :: a4 :: a3 :: a2 :: a1 :: a0 :: rest) M :=
  rc_SVR (As := [a0, a1, a2, a3, a4, a5]) B hd hv hl hc hdn rfl hrs rfl kk
theorem rc_NI0 {md : ax_Md} {idx d : Nat} {host : String} {M2 : ax_M} {v : Int} (B : ax_b X cc own n) (hd : decode cc pc = .ok (.invokestatic idx, 3)) (hv : ax_st md 0) (hl : Cond.methodLinkNest own idx md.1 host ∈ ax_nw) (hc : CT X.g md d [] M (pI v M2)) (hdn : d + 1 ≤ n) (hrs : ax_rs rest ≤ 8) (kk : AW X (pc + 3) lv (aI v :: rest) M2) : AW X pc lv (rest) M :=
  rc_NI (As := []) B hd hv hl hc hdn rfl hrs rfl kk
theorem rc_NIR0 {md : ax_Md} {idx d : Nat} {host : String} {F : ax_M → Prop} {v : Int} (B : ax_b X cc own n) (hd : decode cc pc = .ok (.invokestatic idx, 3)) (hv : ax_st md 0) (hl : Cond.methodLinkNest own idx md.1 host ∈ ax_nw) (hc : CT X.g md d [] M (pIR v F)) (hdn : d + 1 ≤ n) (hrs : ax_rs rest ≤ 8) (kk : ∀ M2, F M2 → AW X (pc + 3) lv (aI v :: rest) M2) : AW X pc lv (rest) M :=
  rc_NIR (As := []) B hd hv hl hc hdn rfl hrs rfl kk
theorem rc_NI1 {md : ax_Md} {idx d : Nat} {host : String} {a0 : ax_V} {M2 : ax_M} {v : Int} (B : ax_b X cc own n) (hd : decode cc pc = .ok (.invokestatic idx, 3)) (hv : ax_st md 1) (hl : Cond.methodLinkNest own idx md.1 host ∈ ax_nw) (hc : CT X.g md d [a0] M (pI v M2)) (hdn : d + 1 ≤ n) (hrs : ax_rs rest ≤ 8) (kk : AW X (pc + 3) lv (aI v :: rest) M2) : AW X pc lv (a0 :: rest) M :=
  rc_NI (As := [a0]) B hd hv hl hc hdn rfl hrs rfl kk
theorem rc_NIR1 {md : ax_Md} {idx d : Nat} {host : String} {a0 : ax_V} {F : ax_M → Prop} {v : Int} (B : ax_b X cc own n) (hd : decode cc pc = .ok (.invokestatic idx, 3)) (hv : ax_st md 1) (hl : Cond.methodLinkNest own idx md.1 host ∈ ax_nw) (hc : CT X.g md d [a0] M (pIR v F)) (hdn : d + 1 ≤ n) (hrs : ax_rs rest ≤ 8) (kk : ∀ M2, F M2 → AW X (pc + 3) lv (aI v :: rest) M2) : AW X pc lv (a0 :: rest) M :=
  rc_NIR (As := [a0]) B hd hv hl hc hdn rfl hrs rfl kk
theorem rc_NI2 {md : ax_Md} {idx d : Nat} {host : String} {a0 a1 : ax_V} {M2 : ax_M} {v : Int} (B : ax_b X cc own n) (hd : decode cc pc = .ok (.invokestatic idx, 3)) (hv : ax_st md 2) (hl : Cond.methodLinkNest own idx md.1 host ∈ ax_nw) (hc : CT X.g md d [a0, a1] M (pI v M2)) (hdn : d + 1 ≤ n) (hrs : ax_rs rest ≤ 8) (kk : AW X (pc + 3) lv (aI v :: rest) M2) : AW X pc lv (a1 :: a0 :: rest) M :=
  rc_NI (As := [a0, a1]) B hd hv hl hc hdn rfl hrs rfl kk
theorem rc_NIR2 {md : ax_Md} {idx d : Nat} {host : String} {a0 a1 : ax_V} {F : ax_M → Prop} {v : Int} (B : ax_b X cc own n) (hd : decode cc pc = .ok (.invokestatic idx, 3)) (hv : ax_st md 2) (hl : Cond.methodLinkNest own idx md.1 host ∈ ax_nw) (hc : CT X.g md d [a0, a1] M (pIR v F)) (hdn : d + 1 ≤ n) (hrs : ax_rs rest ≤ 8) (kk : ∀ M2, F M2 → AW X (pc + 3) lv (aI v :: rest) M2) : AW X pc lv (a1 :: a0 :: rest) M :=
  rc_NIR (As := [a0, a1]) B hd hv hl hc hdn rfl hrs rfl kk
theorem rc_NI3 {md : ax_Md} {idx d : Nat} {host : String} {a0 a1 a2 : ax_V} {M2 : ax_M} {v : Int} (B : ax_b X cc own n) (hd : decode cc pc = .ok (.invokestatic idx, 3)) (hv : ax_st md 3) (hl : Cond.methodLinkNest own idx md.1 host ∈ ax_nw) (hc : CT X.g md d [a0, a1, a2] M (pI v M2)) (hdn : d + 1 ≤ n) (hrs : ax_rs rest ≤ 8) (kk : AW X (pc + 3) lv (aI v :: rest) M2) : AW X pc lv (a2 :: a1 :: a0 :: rest) M :=
  rc_NI (As := [a0, a1, a2]) B hd hv hl hc hdn rfl hrs rfl kk
theorem rc_NIR3 {md : ax_Md} {idx d : Nat} {host : String} {a0 a1 a2 : ax_V} {F : ax_M → Prop} {v : Int} (B : ax_b X cc own n) (hd : decode cc pc = .ok (.invokestatic idx, 3)) (hv : ax_st md 3) (hl : Cond.methodLinkNest own idx md.1 host ∈ ax_nw) (hc : CT X.g md d [a0, a1, a2] M (pIR v F)) (hdn : d + 1 ≤ n) (hrs : ax_rs rest ≤ 8) (kk : ∀ M2, F M2 → AW X (pc + 3) lv (aI v :: rest) M2) : AW X pc lv (a2 :: a1 :: a0 :: rest) M :=
  rc_NIR (As := [a0, a1, a2]) B hd hv hl hc hdn rfl hrs rfl kk
theorem rc_NI4 {md : ax_Md} {idx d : Nat} {host : String} {a0 a1 a2 a3 : ax_V} {M2 : ax_M} {v : Int} (B : ax_b X cc own n) (hd : decode cc pc = .ok (.invokestatic idx, 3)) (hv : ax_st md 4) (hl : Cond.methodLinkNest own idx md.1 host ∈ ax_nw) (hc : CT X.g md d [a0, a1, a2, a3] M (pI v M2)) (hdn : d + 1 ≤ n) (hrs : ax_rs rest ≤ 8) (kk : AW X (pc + 3) lv (aI v :: rest) M2) : AW X pc lv (a3 :: a2 :: a1 :: a0 :: rest) M :=
  rc_NI (As := [a0, a1, a2, a3]) B hd hv hl hc hdn rfl hrs rfl kk
theorem rc_NIR4 {md : ax_Md} {idx d : Nat} {host : String} {a0 a1 a2 a3 : ax_V} {F : ax_M → Prop} {v : Int} (B : ax_b X cc own n) (hd : decode cc pc = .ok (.invokestatic idx, 3)) (hv : ax_st md 4) (hl : Cond.methodLinkNest own idx md.1 host ∈ ax_nw) (hc : CT X.g md d [a0, a1, a2, a3] M (pIR v F)) (hdn : d + 1 ≤ n) (hrs : ax_rs rest ≤ 8) (kk : ∀ M2, F M2 → AW X (pc + 3) lv (aI v :: rest) M2) : AW X pc lv (a3 :: a2 :: a1 :: a0 :: rest) M :=
  rc_NIR (As := [a0, a1, a2, a3]) B hd hv hl hc hdn rfl hrs rfl kk
theorem rc_NI5 {md : ax_Md} {idx d : Nat} {host : String} {a0 a1 a2 a3 a4 : ax_V} {M2 : ax_M} {v : Int} (B : ax_b X cc own n) (hd : decode cc pc = .ok (.invokestatic idx, 3)) (hv : ax_st md 5) (hl : Cond.methodLinkNest own idx md.1 host ∈ ax_nw) (hc : CT X.g md d [a0, a1, a2, a3, a4] M (pI v M2)) (hdn : d + 1 ≤ n) (hrs : ax_rs rest ≤ 8) (kk : AW X (pc + 3) lv (aI v :: rest) M2) : AW X pc lv (a4 :: a3 :: a2 :: a1 :: a0 :: rest) M :=
  rc_NI (As := [a0, a1, a2, a3, a4]) B hd hv hl hc hdn rfl hrs rfl kk
theorem rc_NIR5 {md : ax_Md} {idx d : Nat} {host : String} {a0 a1 a2 a3 a4 : ax_V} {F : ax_M → Prop} {v : Int} (B : ax_b X cc own n) (hd : decode cc pc = .ok (.invokestatic idx, 3)) (hv : ax_st md 5) (hl : Cond.methodLinkNest own idx md.1 host ∈ ax_nw) (hc : CT X.g md d [a0, a1, a2, a3, a4] M (pIR v F)) (hdn : d + 1 ≤ n) (hrs : ax_rs rest ≤ 8) (kk : ∀ M2, F M2 → AW X (pc + 3) lv (aI v :: rest) M2) : AW X pc lv (a4 :: a3 :: a2 :: a1 :: a0 :: rest) M :=
  rc_NIR (As := [a0, a1, a2, a3, a4]) B hd hv hl hc hdn rfl hrs rfl kk
theorem rc_NI6 {md : ax_Md} {idx d : Nat} {host : String} {a0 a1 a2 a3 a4 a5 : ax_V} {M2 : ax_M} {v : Int} (B : ax_b X cc own n) (hd : decode cc pc = .ok (.invokestatic idx, 3)) (hv : ax_st md 6) (hl : Cond.methodLinkNest own idx md.1 host ∈ ax_nw) (hc : CT X.g md d [a0, a1, a2, a3, a4, a5] M (pI v M2)) (hdn : d + 1 ≤ n) (hrs : ax_rs rest ≤ 8) (kk : AW X (pc + 3) lv (aI v :: rest) M2) : AW X pc lv (a5 :: a4 :: a3 :: a2 :: a1 :: a0 :: rest) M :=
  rc_NI (As := [a0, a1, a2, a3, a4, a5]) B hd hv hl hc hdn rfl hrs rfl kk
theorem rc_NIR6 {md : ax_Md} {idx d : Nat} {host : String} {a0 a1 a2 a3 a4 a5 : ax_V} {F : ax_M → Prop} {v : Int} (B : ax_b X cc own n) (hd : decode cc pc = .ok (.invokestatic idx, 3)) (hv : ax_st md 6) (hl : Cond.methodLinkNest own idx md.1 host ∈ ax_nw) (hc : CT X.g md d [a0, a1, a2, a3, a4, a5] M (pIR v F)) (hdn : d + 1 ≤ n) (hrs : ax_rs rest ≤ 8) (kk : ∀ M2, F M2 → AW X (pc + 3) lv (aI v :: rest) M2) : AW X pc lv (a5 :: a4 :: a3 :: a2 :: a1 :: a0 :: rest) M :=
  rc_NIR (As := [a0, a1, a2, a3, a4, a5]) B hd hv hl hc hdn rfl hrs rfl kk
theorem rc_NL0 {md : ax_Md} {idx d : Nat} {host : String} {M2 : ax_M} {v : Int} (B : ax_b X cc own n) (hd : decode cc pc = .ok (.invokestatic idx, 3)) (hv : ax_st md 0) (hl : Cond.methodLinkNest own idx md.1 host ∈ ax_nw) (hc : CT X.g md d [] M (pL v M2)) (hdn : d + 1 ≤ n) (hrs : ax_rs rest ≤ 8) (kk : AW X (pc + 3) lv (aL v :: rest) M2) : AW X pc lv (rest) M :=
  rc_NL (As := []) B hd hv hl hc hdn rfl hrs rfl kk
theorem rc_NLR0 {md : ax_Md} {idx d : Nat} {host : String} {F : ax_M → Prop} {v : Int} (B : ax_b X cc own n) (hd : decode cc pc = .ok (.invokestatic idx, 3)) (hv : ax_st md 0) (hl : Cond.methodLinkNest own idx md.1 host ∈ ax_nw) (hc : CT X.g md d [] M (pLR v F)) (hdn : d + 1 ≤ n) (hrs : ax_rs rest ≤ 8) (kk : ∀ M2, F M2 → AW X (pc + 3) lv (aL v :: rest) M2) : AW X pc lv (rest) M :=
  rc_NLR (As := []) B hd hv hl hc hdn rfl hrs rfl kk
theorem rc_NL1 {md : ax_Md} {idx d : Nat} {host : String} {a0 : ax_V} {M2 : ax_M} {v : Int} (B : ax_b X cc own n) (hd : decode cc pc = .ok (.invokestatic idx, 3)) (hv : ax_st md 1) (hl : Cond.methodLinkNest own idx md.1 host ∈ ax_nw) (hc : CT X.g md d [a0] M (pL v M2)) (hdn : d + 1 ≤ n) (hrs : ax_rs rest ≤ 8) (kk : AW X (pc + 3) lv (aL v :: rest) M2) : AW X pc lv (a0 :: rest) M :=
  rc_NL (As := [a0]) B hd hv hl hc hdn rfl hrs rfl kk
theorem rc_NLR1 {md : ax_Md} {idx d : Nat} {host : String} {a0 : ax_V} {F : ax_M → Prop} {v : Int} (B : ax_b X cc own n) (hd : decode cc pc = .ok (.invokestatic idx, 3)) (hv : ax_st md 1) (hl : Cond.methodLinkNest own idx md.1 host ∈ ax_nw) (hc : CT X.g md d [a0] M (pLR v F)) (hdn : d + 1 ≤ n) (hrs : ax_rs rest ≤ 8) (kk : ∀ M2, F M2 → AW X (pc + 3) lv (aL v :: rest) M2) : AW X pc lv (a0 :: rest) M :=
  rc_NLR (As := [a0]) B hd hv hl hc hdn rfl hrs rfl kk
theorem rc_NL2 {md : ax_Md} {idx d : Nat} {host : String} {a0 a1 : ax_V} {M2 : ax_M} {v : Int} (B : ax_b X cc own n) (hd : decode cc pc = .ok (.invokestatic idx, 3)) (hv : ax_st md 2) (hl : Cond.methodLinkNest own idx md.1 host ∈ ax_nw) (hc : CT X.g md d [a0, a1] M (pL v M2)) (hdn : d + 1 ≤ n) (hrs : ax_rs rest ≤ 8) (kk : AW X (pc + 3) lv (aL v :: rest) M2) : AW X pc lv (a1 :: a0 :: rest) M :=
  rc_NL (As := [a0, a1]) B hd hv hl hc hdn rfl hrs rfl kk
theorem rc_NLR2 {md : ax_Md} {idx d : Nat} {host : String} {a0 a1 : ax_V} {F : ax_M → Prop} {v : Int} (B : ax_b X cc own n) (hd : decode cc pc = .ok (.invokestatic idx, 3)) (hv : ax_st md 2) (hl : Cond.methodLinkNest own idx md.1 host ∈ ax_nw) (hc : CT X.g md d [a0, a1] M (pLR v F)) (hdn : d + 1 ≤ n) (hrs : ax_rs rest ≤ 8) (kk : ∀ M2, F M2 → AW X (pc + 3) lv (aL v :: rest) M2) : AW X pc lv (a1 :: a0 :: rest) M :=
  rc_NLR (As := [a0, a1]) B hd hv hl hc hdn rfl hrs rfl kk
theorem rc_NL3 {md : ax_Md} {idx d : Nat} {host : String} {a0 a1 a2 : ax_V} {M2 : ax_M} {v : Int} (B : ax_b X cc own n) (hd : decode cc pc = .ok (.invokestatic idx, 3)) (hv : ax_st md 3) (hl : Cond.methodLinkNest own idx md.1 host ∈ ax_nw) (hc : CT X.g md d [a0, a1, a2] M (pL v M2)) (hdn : d + 1 ≤ n) (hrs : ax_rs rest ≤ 8) (kk : AW X (pc + 3) lv (aL v :: rest) M2) : AW X pc lv (a2 :: a1 :: a0 :: rest) M :=
  rc_NL (As := [a0, a1, a2]) B hd hv hl hc hdn rfl hrs rfl kk
theorem rc_NLR3 {md : ax_Md} {idx d : Nat} {host : String} {a0 a1 a2 : ax_V} {F : ax_M → Prop} {v : Int} (B : ax_b X cc own n) (hd : decode cc pc = .ok (.invokestatic idx, 3)) (hv : ax_st md 3) (hl : Cond.methodLinkNest own idx md.1 host ∈ ax_nw) (hc : CT X.g md d [a0, a1, a2] M (pLR v F)) (hdn : d + 1 ≤ n) (hrs : ax_rs rest ≤ 8) (kk : ∀ M2, F M2 → AW X (pc + 3) lv (aL v :: rest) M2) : AW X pc lv (a2 :: a1 :: a0 :: rest) M :=
  rc_NLR (As := [a0, a1, a2]) B hd hv hl hc hdn rfl hrs rfl kk
theorem rc_NL4 {md : ax_Md} {idx d : Nat} {host : String} {a0 a1 a2 a3 : ax_V} {M2 : ax_M} {v : Int} (B : ax_b X cc own n) (hd : decode cc pc = .ok (.invokestatic idx, 3)) (hv : ax_st md 4) (hl : Cond.methodLinkNest own idx md.1 host ∈ ax_nw) (hc : CT X.g md d [a0, a1, a2, a3] M (pL v M2)) (hdn : d + 1 ≤ n) (hrs : ax_rs rest ≤ 8) (kk : AW X (pc + 3) lv (aL v :: rest) M2) : AW X pc lv (a3 :: a2 :: a1 :: a0 :: rest) M :=
  rc_NL (As := [a0, a1, a2, a3]) B hd hv hl hc hdn rfl hrs rfl kk
theorem rc_NLR4 {md : ax_Md} {idx d : Nat} {host : String} {a0 a1 a2 a3 : ax_V} {F : ax_M → Prop} {v : Int} (B : ax_b X cc own n) (hd : decode cc pc = .ok (.invokestatic idx, 3)) (hv : ax_st md 4) (hl : Cond.methodLinkNest own idx md.1 host ∈ ax_nw) (hc : CT X.g md d [a0, a1, a2, a3] M (pLR v F)) (hdn : d + 1 ≤ n) (hrs : ax_rs rest ≤ 8) (kk : ∀ M2, F M2 → AW X (pc + 3) lv (aL v :: rest) M2) : AW X pc lv (a3 :: a2 :: a1 :: a0 :: rest) M :=
  rc_NLR (As := [a0, a1, a2, a3]) B hd hv hl hc hdn rfl hrs rfl kk
theorem rc_NL5 {md : ax_Md} {idx d : Nat} {host : String} {a0 a1 a2 a3 a4 : ax_V} {M2 : ax_M} {v : Int} (B : ax_b X cc own n) (hd : decode cc pc = .ok (.invokestatic idx, 3)) (hv : ax_st md 5) (hl : Cond.methodLinkNest own idx md.1 host ∈ ax_nw) (hc : CT X.g md d [a0, a1, a2, a3, a4] M (pL v M2)) (hdn : d + 1 ≤ n) (hrs : ax_rs rest ≤ 8) (kk : AW X (pc + 3) lv (aL v :: rest) M2) : AW X pc lv (a4 :: a3 :: a2 :: a1 :: a0 :: rest) M :=
  rc_NL (As := [a0, a1, a2, a3, a4]) B hd hv hl hc hdn rfl hrs rfl kk
theorem rc_NLR5 {md : ax_Md} {idx d : Nat} {host : String} {a0 a1 a2 a3 a4 : ax_V} {F : ax_M → Prop} {v : Int} (B : ax_b X cc own n) (hd : decode cc pc = .ok (.invokestatic idx, 3)) (hv : ax_st md 5) (hl : Cond.methodLinkNest own idx md.1 host ∈ ax_nw) (hc : CT X.g md d [a0, a1, a2, a3, a4] M (pLR v F)) (hdn : d + 1 ≤ n) (hrs : ax_rs rest ≤ 8) (kk : ∀ M2, F M2 → AW X (pc + 3) lv (aL v :: rest) M2) : AW X pc lv (a4 :: a3 :: a2 :: a1 :: a0 :: rest) M :=
  rc_NLR (As := [a0, a1, a2, a3, a4]) B hd hv hl hc hdn rfl hrs rfl kk
theorem rc_NL6 {md : ax_Md} {idx d : Nat} {host : String} {a0 a1 a2 a3 a4 a5 : ax_V} {M2 : ax_M} {v : Int} (B : ax_b X cc own n) (hd : decode cc pc = .ok (.invokestatic idx, 3)) (hv : ax_st md 6) (hl : Cond.methodLinkNest own idx md.1 host ∈ ax_nw) (hc : CT X.g md d [a0, a1, a2, a3, a4, a5] M (pL v M2)) (hdn : d + 1 ≤ n) (hrs : ax_rs rest ≤ 8) (kk : AW X (pc + 3) lv (aL v :: rest) M2) : AW X pc lv (a5 :: a4 :: a3 :: a2 :: a1 :: a0 :: rest) M :=
  rc_NL (As := [a0, a1, a2, a3, a4, a5]) B hd hv hl hc hdn rfl hrs rfl kk
theorem rc_NLR6 {md : ax_Md} {idx d : Nat} {host : String} {a0 a1 a2 a3 a4 a5 : ax_V} {F : ax_M → Prop} {v : Int} (B : ax_b X cc own n) (hd : decode cc pc = .ok (.invokestatic idx, 3)) (hv : ax_st md 6) (hl : Cond.methodLinkNest own idx md.1 host ∈ ax_nw) (hc : CT X.g md d [a0, a1, a2, a3, a4, a5] M (pLR v F)) (hdn : d + 1 ≤ n) (hrs : ax_rs rest ≤ 8) (kk : ∀ M2, F M2 → AW X (pc + 3) lv (aL v :: rest) M2) : AW X pc lv (a5 :: a4 :: a3 :: a2 :: a1 :: a0 :: rest) M :=
  rc_NLR (As := [a0, a1, a2, a3, a4, a5]) B hd hv hl hc hdn rfl hrs rfl kk
theorem rc_NV0 {md : ax_Md} {idx d : Nat} {host : String} {M2 : ax_M} (B : ax_b X cc own n) (hd : decode cc pc = .ok (.invokestatic idx, 3)) (hv : ax_st md 0) (hl : Cond.methodLinkNest own idx md.1 host ∈ ax_nw) (hc : CT X.g md d [] M (pV M2)) (hdn : d + 1 ≤ n) (hrs : ax_rs rest ≤ 8) (kk : AW X (pc + 3) lv (rest) M2) : AW X pc lv (rest) M :=
  rc_NV (As := []) B hd hv hl hc hdn rfl hrs rfl kk
theorem rc_NVR0 {md : ax_Md} {idx d : Nat} {host : String} {F : ax_M → Prop} (B : ax_b X cc own n) (hd : decode cc pc = .ok (.invokestatic idx, 3)) (hv : ax_st md 0) (hl : Cond.methodLinkNest own idx md.1 host ∈ ax_nw) (hc : CT X.g md d [] M (pVR F)) (hdn : d + 1 ≤ n) (hrs : ax_rs rest ≤ 8) (kk : ∀ M2, F M2 → AW X (pc + 3) lv (rest) M2) : AW X pc lv (rest) M :=
  rc_NVR (As := []) B hd hv hl hc hdn rfl hrs rfl kk
theorem rc_NV1 {md : ax_Md} {idx d : Nat} {host : String} {a0 : ax_V} {M2 : ax_M} (B : ax_b X cc own n) (hd : decode cc pc = .ok (.invokestatic idx, 3)) (hv : ax_st md 1) (hl : Cond.methodLinkNest own idx md.1 host ∈ ax_nw) (hc : CT X.g md d [a0] M (pV M2)) (hdn : d + 1 ≤ n) (hrs : ax_rs rest ≤ 8) (kk : AW X (pc + 3) lv (rest) M2) : AW X pc lv (a0 :: rest) M :=
  rc_NV (As := [a0]) B hd hv hl hc hdn rfl hrs rfl kk
theorem rc_NVR1 {md : ax_Md} {idx d : Nat} {host : String} {a0 : ax_V} {F : ax_M → Prop} (B : ax_b X cc own n) (hd : decode cc pc = .ok (.invokestatic idx, 3)) (hv : ax_st md 1) (hl : Cond.methodLinkNest own idx md.1 host ∈ ax_nw) (hc : CT X.g md d [a0] M (pVR F)) (hdn : d + 1 ≤ n) (hrs : ax_rs rest ≤ 8) (kk : ∀ M2, F M2 → AW X (pc + 3) lv (rest) M2) : AW X pc lv (a0 :: rest) M :=
  rc_NVR (As := [a0]) B hd hv hl hc hdn rfl hrs rfl kk
theorem rc_NV2 {md : ax_Md} {idx d : Nat} {host : String} {a0 a1 : ax_V} {M2 : ax_M} (B : ax_b X cc own n) (hd : decode cc pc = .ok (.invokestatic idx, 3)) (hv : ax_st md 2) (hl : Cond.methodLinkNest own idx md.1 host ∈ ax_nw) (hc : CT X.g md d [a0, a1] M (pV M2)) (hdn : d + 1 ≤ n) (hrs : ax_rs rest ≤ 8) (kk : AW X (pc + 3) lv (rest) M2) : AW X pc lv (a1 :: a0 :: rest) M :=
  rc_NV (As := [a0, a1]) B hd hv hl hc hdn rfl hrs rfl kk
theorem rc_NVR2 {md : ax_Md} {idx d : Nat} {host : String} {a0 a1 : ax_V} {F : ax_M → Prop} (B : ax_b X cc own n) (hd : decode cc pc = .ok (.invokestatic idx, 3)) (hv : ax_st md 2) (hl : Cond.methodLinkNest own idx md.1 host ∈ ax_nw) (hc : CT X.g md d [a0, a1] M (pVR F)) (hdn : d + 1 ≤ n) (hrs : ax_rs rest ≤ 8) (kk : ∀ M2, F M2 → AW X (pc + 3) lv (rest) M2) : AW X pc lv (a1 :: a0 :: rest) M :=
  rc_NVR (As := [a0, a1]) B hd hv hl hc hdn rfl hrs rfl kk
theorem rc_NV3 {md : ax_Md} {idx d : Nat} {host : String} {a0 a1 a2 : ax_V} {M2 : ax_M} (B : ax_b X cc own n) (hd : decode cc pc = .ok (.invokestatic idx, 3)) (hv : ax_st md 3) (hl : Cond.methodLinkNest own idx md.1 host ∈ ax_nw) (hc : CT X.g md d [a0, a1, a2] M (pV M2)) (hdn : d + 1 ≤ n) (hrs : ax_rs rest ≤ 8) (kk : AW X (pc + 3) lv (rest) M2) : AW X pc lv (a2 :: a1 :: a0 :: rest) M :=
  rc_NV (As := [a0, a1, a2]) B hd hv hl hc hdn rfl hrs rfl kk
theorem rc_NVR3 {md : ax_Md} {idx d : Nat} {host : String} {a0 a1 a2 : ax_V} {F : ax_M → Prop} (B : ax_b X cc own n) (hd : decode cc pc = .ok (.invokestatic idx, 3)) (hv : ax_st md 3) (hl : Cond.methodLinkNest own idx md.1 host ∈ ax_nw) (hc : CT X.g md d [a0, a1, a2] M (pVR F)) (hdn : d + 1 ≤ n) (hrs : ax_rs rest ≤ 8) (kk : ∀ M2, F M2 → AW X (pc + 3) lv (rest) M2) : AW X pc lv (a2 :: a1 :: a0 :: rest) M :=
  rc_NVR (As := [a0, a1, a2]) B hd hv hl hc hdn rfl hrs rfl kk
theorem rc_NV4 {md : ax_Md} {idx d : Nat} {host : String} {a0 a1 a2 a3 : ax_V} {M2 : ax_M} (B : ax_b X cc own n) (hd : decode cc pc = .ok (.invokestatic idx, 3)) (hv : ax_st md 4) (hl : Cond.methodLinkNest own idx md.1 host ∈ ax_nw) (hc : CT X.g md d [a0, a1, a2, a3] M (pV M2)) (hdn : d + 1 ≤ n) (hrs : ax_rs rest ≤ 8) (kk : AW X (pc + 3) lv (rest) M2) : AW X pc lv (a3 :: a2 :: a1 :: a0 :: rest) M :=
  rc_NV (As := [a0, a1, a2, a3]) B hd hv hl hc hdn rfl hrs rfl kk
theorem rc_NVR4 {md : ax_Md} {idx d : Nat} {host : String} {a0 a1 a2 a3 : ax_V} {F : ax_M → Prop} (B : ax_b X cc own n) (hd : decode cc pc = .ok (.invokestatic idx, 3)) (hv : ax_st md 4) (hl : Cond.methodLinkNest own idx md.1 host ∈ ax_nw) (hc : CT X.g md d [a0, a1, a2, a3] M (pVR F)) (hdn : d + 1 ≤ n) (hrs : ax_rs rest ≤ 8) (kk : ∀ M2, F M2 → AW X (pc + 3) lv (rest) M2) : AW X pc lv (a3 :: a2 :: a1 :: a0 :: rest) M :=
  rc_NVR (As := [a0, a1, a2, a3]) B hd hv hl hc hdn rfl hrs rfl kk
theorem rc_NV5 {md : ax_Md} {idx d : Nat} {host : String} {a0 a1 a2 a3 a4 : ax_V} {M2 : ax_M} (B : ax_b X cc own n) (hd : decode cc pc = .ok (.invokestatic idx, 3)) (hv : ax_st md 5) (hl : Cond.methodLinkNest own idx md.1 host ∈ ax_nw) (hc : CT X.g md d [a0, a1, a2, a3, a4] M (pV M2)) (hdn : d + 1 ≤ n) (hrs : ax_rs rest ≤ 8) (kk : AW X (pc + 3) lv (rest) M2) : AW X pc lv (a4 :: a3 :: a2 :: a1 :: a0 :: rest) M :=
  rc_NV (As := [a0, a1, a2, a3, a4]) B hd hv hl hc hdn rfl hrs rfl kk
theorem rc_NVR5 {md : ax_Md} {idx d : Nat} {host : String} {a0 a1 a2 a3 a4 : ax_V} {F : ax_M → Prop} (B : ax_b X cc own n) (hd : decode cc pc = .ok (.invokestatic idx, 3)) (hv : ax_st md 5) (hl : Cond.methodLinkNest own idx md.1 host ∈ ax_nw) (hc : CT X.g md d [a0, a1, a2, a3, a4] M (pVR F)) (hdn : d + 1 ≤ n) (hrs : ax_rs rest ≤ 8) (kk : ∀ M2, F M2 → AW X (pc + 3) lv (rest) M2) : AW X pc lv (a4 :: a3 :: a2 :: a1 :: a0 :: rest) M :=
  rc_NVR (As := [a0, a1, a2, a3, a4]) B hd hv hl hc hdn rfl hrs rfl kk
theorem rc_NV6 {md : ax_Md} {idx d : Nat} {host : String} {a0 a1 a2 a3 a4 a5 : ax_V} {M2 : ax_M} (B : ax_b X cc own n) (hd : decode cc pc = .ok (.invokestatic idx, 3)) (hv : ax_st md 6) (hl : Cond.methodLinkNest own idx md.1 host ∈ ax_nw) (hc : CT X.g md d [a0, a1, a2, a3, a4, a5] M (pV M2)) (hdn : d + 1 ≤ n) (hrs : ax_rs rest ≤ 8) (kk : AW X (pc + 3) lv (rest) M2) : AW X pc lv (a5 :: a4 :: a3 :: a2 :: a1 :: a0 :: rest) M :=
  rc_NV (As := [a0, a1, a2, a3, a4, a5]) B hd hv hl hc hdn rfl hrs rfl kk
theorem rc_NVR6 {md : ax_Md} {idx d : Nat} {host : String} {a0 a1 a2 a3 a4 a5 : ax_V} {F : ax_M → Prop} (B : ax_b X cc own n) (hd : decode cc pc = .ok (.invokestatic idx, 3)) (hv : ax_st md 6) (hl : Cond.methodLinkNest own idx md.1 host ∈ ax_nw) (hc : CT X.g md d [a0, a1, a2, a3, a4, a5] M (pVR F)) (hdn : d + 1 ≤ n) (hrs : ax_rs rest ≤ 8) (kk : ∀ M2, F M2 → AW X (pc + 3) lv (rest) M2) : AW X pc lv (a5 :: a4 :: a3 :: a2 :: a1 :: a0 :: rest) M :=
  rc_NVR (As := [a0, a1, a2, a3, a4, a5]) B hd hv hl hc hdn rfl hrs rfl kk
end AXS
end
