-- ===== PART A: goes FIRST, ahead of the names: the tables' words, and 'selects' of the private methods out of them =====
/-- a private method of a class that the tables say can be made, by its rows of tables_1 -/
def lw_okq (q : MethodName × Nat) : Prop := (q.1.cls ≠ "java/lang/invoke/MethodHandle" ∧ q.1.cls ≠ "java/lang/invoke/VarHandle") ∧ Cond.instantiable q.1.cls q.2 ∈ tables_1 ∧ Cond.privateMethod q.1 ∈ tables_1 ∧ Cond.instanceMethod q.1 ∈ tables_1
theorem lw_p0 : lw_okq (⟨"VersionResolver", "beginChange", "()V"⟩, 6) := ⟨⟨by decide +kernel, by decide +kernel⟩, List.mem_of_getElem? (i := 15) (by decide +kernel), List.mem_of_getElem? (i := 275) (by decide +kernel), List.mem_of_getElem? (i := 276) (by decide +kernel)⟩
theorem lw_p1 : lw_okq (⟨"VersionResolver$Outcome", "load", "()V"⟩, 15) := ⟨⟨by decide +kernel, by decide +kernel⟩, List.mem_of_getElem? (i := 23) (by decide +kernel), List.mem_of_getElem? (i := 341) (by decide +kernel), List.mem_of_getElem? (i := 342) (by decide +kernel)⟩
theorem lw_p2 : lw_okq (⟨"VersionResolver$Puzzle", "impose", "(I)V"⟩, 11) := ⟨⟨by decide +kernel, by decide +kernel⟩, List.mem_of_getElem? (i := 58) (by decide +kernel), List.mem_of_getElem? (i := 381) (by decide +kernel), List.mem_of_getElem? (i := 382) (by decide +kernel)⟩
theorem lw_p3 : lw_okq (⟨"VersionResolver$Puzzle", "imposeRule", "(I)V"⟩, 11) := ⟨⟨by decide +kernel, by decide +kernel⟩, List.mem_of_getElem? (i := 58) (by decide +kernel), List.mem_of_getElem? (i := 388) (by decide +kernel), List.mem_of_getElem? (i := 389) (by decide +kernel)⟩
theorem lw_p4 : lw_okq (⟨"VersionResolver$Puzzle", "takeUnfit", "()V"⟩, 11) := ⟨⟨by decide +kernel, by decide +kernel⟩, List.mem_of_getElem? (i := 58) (by decide +kernel), List.mem_of_getElem? (i := 393) (by decide +kernel), List.mem_of_getElem? (i := 394) (by decide +kernel)⟩
theorem lw_p5 : lw_okq (⟨"VersionResolver$Puzzle", "leastCost", "(J)I"⟩, 11) := ⟨⟨by decide +kernel, by decide +kernel⟩, List.mem_of_getElem? (i := 58) (by decide +kernel), List.mem_of_getElem? (i := 404) (by decide +kernel), List.mem_of_getElem? (i := 405) (by decide +kernel)⟩
theorem lw_p6 : lw_okq (⟨"VersionResolver$Outcome", "appliedCount", "()I"⟩, 15) := ⟨⟨by decide +kernel, by decide +kernel⟩, List.mem_of_getElem? (i := 23) (by decide +kernel), List.mem_of_getElem? (i := 429) (by decide +kernel), List.mem_of_getElem? (i := 430) (by decide +kernel)⟩
theorem lw_p7 : lw_okq (⟨"VersionResolver$Outcome", "isActive", "(I)Z"⟩, 15) := ⟨⟨by decide +kernel, by decide +kernel⟩, List.mem_of_getElem? (i := 23) (by decide +kernel), List.mem_of_getElem? (i := 433) (by decide +kernel), List.mem_of_getElem? (i := 434) (by decide +kernel)⟩
theorem lw_p8 : lw_okq (⟨"VersionResolver$RuleText", "start", "()V"⟩, 14) := ⟨⟨by decide +kernel, by decide +kernel⟩, List.mem_of_getElem? (i := 165) (by decide +kernel), List.mem_of_getElem? (i := 502) (by decide +kernel), List.mem_of_getElem? (i := 503) (by decide +kernel)⟩
theorem lw_p9 : lw_okq (⟨"VersionResolver$RuleText", "skipBlanks", "()V"⟩, 14) := ⟨⟨by decide +kernel, by decide +kernel⟩, List.mem_of_getElem? (i := 165) (by decide +kernel), List.mem_of_getElem? (i := 506) (by decide +kernel), List.mem_of_getElem? (i := 507) (by decide +kernel)⟩
theorem lw_p10 : lw_okq (⟨"VersionResolver$RuleText", "parseRange", "(LVersionResolver$Range;)V"⟩, 14) := ⟨⟨by decide +kernel, by decide +kernel⟩, List.mem_of_getElem? (i := 165) (by decide +kernel), List.mem_of_getElem? (i := 510) (by decide +kernel), List.mem_of_getElem? (i := 511) (by decide +kernel)⟩
theorem lw_p11 : lw_okq (⟨"VersionResolver$RuleText", "parsePart", "()V"⟩, 14) := ⟨⟨by decide +kernel, by decide +kernel⟩, List.mem_of_getElem? (i := 165) (by decide +kernel), List.mem_of_getElem? (i := 518) (by decide +kernel), List.mem_of_getElem? (i := 519) (by decide +kernel)⟩
theorem lw_p12 : lw_okq (⟨"VersionResolver$RuleText", "parseBound", "()V"⟩, 14) := ⟨⟨by decide +kernel, by decide +kernel⟩, List.mem_of_getElem? (i := 165) (by decide +kernel), List.mem_of_getElem? (i := 522) (by decide +kernel), List.mem_of_getElem? (i := 523) (by decide +kernel)⟩
theorem lw_p13 : lw_okq (⟨"VersionResolver$RuleText", "take", "(I)Z"⟩, 14) := ⟨⟨by decide +kernel, by decide +kernel⟩, List.mem_of_getElem? (i := 165) (by decide +kernel), List.mem_of_getElem? (i := 526) (by decide +kernel), List.mem_of_getElem? (i := 527) (by decide +kernel)⟩
theorem lw_p14 : lw_okq (⟨"VersionResolver$RuleText", "peek", "()I"⟩, 14) := ⟨⟨by decide +kernel, by decide +kernel⟩, List.mem_of_getElem? (i := 165) (by decide +kernel), List.mem_of_getElem? (i := 530) (by decide +kernel), List.mem_of_getElem? (i := 531) (by decide +kernel)⟩
theorem lw_p15 : lw_okq (⟨"VersionResolver$RuleText", "parseVersion", "()V"⟩, 14) := ⟨⟨by decide +kernel, by decide +kernel⟩, List.mem_of_getElem? (i := 165) (by decide +kernel), List.mem_of_getElem? (i := 537) (by decide +kernel), List.mem_of_getElem? (i := 538) (by decide +kernel)⟩
def lw_privs_1 : List (MethodName × Nat) := [(⟨"VersionResolver", "beginChange", "()V"⟩, 6), (⟨"VersionResolver$Outcome", "load", "()V"⟩, 15), (⟨"VersionResolver$Puzzle", "impose", "(I)V"⟩, 11), (⟨"VersionResolver$Puzzle", "imposeRule", "(I)V"⟩, 11), (⟨"VersionResolver$Puzzle", "takeUnfit", "()V"⟩, 11), (⟨"VersionResolver$Puzzle", "leastCost", "(J)I"⟩, 11), (⟨"VersionResolver$Outcome", "appliedCount", "()I"⟩, 15), (⟨"VersionResolver$Outcome", "isActive", "(I)Z"⟩, 15), (⟨"VersionResolver$RuleText", "start", "()V"⟩, 14), (⟨"VersionResolver$RuleText", "skipBlanks", "()V"⟩, 14), (⟨"VersionResolver$RuleText", "parseRange", "(LVersionResolver$Range;)V"⟩, 14), (⟨"VersionResolver$RuleText", "parsePart", "()V"⟩, 14), (⟨"VersionResolver$RuleText", "parseBound", "()V"⟩, 14), (⟨"VersionResolver$RuleText", "take", "(I)Z"⟩, 14), (⟨"VersionResolver$RuleText", "peek", "()I"⟩, 14), (⟨"VersionResolver$RuleText", "parseVersion", "()V"⟩, 14)]
theorem lw_r1 : ∀ q ∈ lw_privs_1, lw_okq q := List.forall_mem_cons.mpr ⟨lw_p0, List.forall_mem_cons.mpr ⟨lw_p1, List.forall_mem_cons.mpr ⟨lw_p2, List.forall_mem_cons.mpr ⟨lw_p3, List.forall_mem_cons.mpr ⟨lw_p4, List.forall_mem_cons.mpr ⟨lw_p5, List.forall_mem_cons.mpr ⟨lw_p6, List.forall_mem_cons.mpr ⟨lw_p7, List.forall_mem_cons.mpr ⟨lw_p8, List.forall_mem_cons.mpr ⟨lw_p9, List.forall_mem_cons.mpr ⟨lw_p10, List.forall_mem_cons.mpr ⟨lw_p11, List.forall_mem_cons.mpr ⟨lw_p12, List.forall_mem_cons.mpr ⟨lw_p13, List.forall_mem_cons.mpr ⟨lw_p14, List.forall_mem_cons.mpr ⟨lw_p15, fun _ h => absurd h List.not_mem_nil⟩⟩⟩⟩⟩⟩⟩⟩⟩⟩⟩⟩⟩⟩⟩⟩
theorem lw_p16 : lw_okq (⟨"VersionResolver$RuleText", "lowEnd", "(IZ)I"⟩, 14) := ⟨⟨by decide +kernel, by decide +kernel⟩, List.mem_of_getElem? (i := 165) (by decide +kernel), List.mem_of_getElem? (i := 544) (by decide +kernel), List.mem_of_getElem? (i := 545) (by decide +kernel)⟩
theorem lw_p17 : lw_okq (⟨"VersionResolver$RuleText", "highEnd", "(IZ)I"⟩, 14) := ⟨⟨by decide +kernel, by decide +kernel⟩, List.mem_of_getElem? (i := 165) (by decide +kernel), List.mem_of_getElem? (i := 549) (by decide +kernel), List.mem_of_getElem? (i := 550) (by decide +kernel)⟩
theorem lw_p18 : lw_okq (⟨"VersionResolver$RuleText", "lastAlike", "(I)I"⟩, 14) := ⟨⟨by decide +kernel, by decide +kernel⟩, List.mem_of_getElem? (i := 165) (by decide +kernel), List.mem_of_getElem? (i := 553) (by decide +kernel), List.mem_of_getElem? (i := 554) (by decide +kernel)⟩
theorem lw_p19 : lw_okq (⟨"VersionResolver$RuleText", "expectEnd", "()V"⟩, 14) := ⟨⟨by decide +kernel, by decide +kernel⟩, List.mem_of_getElem? (i := 165) (by decide +kernel), List.mem_of_getElem? (i := 565) (by decide +kernel), List.mem_of_getElem? (i := 566) (by decide +kernel)⟩
theorem lw_p20 : lw_okq (⟨"VersionResolver$RuleText", "parseBetween", "(II)I"⟩, 14) := ⟨⟨by decide +kernel, by decide +kernel⟩, List.mem_of_getElem? (i := 165) (by decide +kernel), List.mem_of_getElem? (i := 573) (by decide +kernel), List.mem_of_getElem? (i := 574) (by decide +kernel)⟩
theorem lw_p21 : lw_okq (⟨"VersionResolver$Puzzle", "narrowByRule", "(IJ)J"⟩, 11) := ⟨⟨by decide +kernel, by decide +kernel⟩, List.mem_of_getElem? (i := 58) (by decide +kernel), List.mem_of_getElem? (i := 714) (by decide +kernel), List.mem_of_getElem? (i := 715) (by decide +kernel)⟩
theorem lw_p22 : lw_okq (⟨"VersionResolver$Outcome", "findReasons", "()V"⟩, 15) := ⟨⟨by decide +kernel, by decide +kernel⟩, List.mem_of_getElem? (i := 23) (by decide +kernel), List.mem_of_getElem? (i := 726) (by decide +kernel), List.mem_of_getElem? (i := 727) (by decide +kernel)⟩
theorem lw_p23 : lw_okq (⟨"VersionResolver$Outcome", "reachFrom", "(II)I"⟩, 15) := ⟨⟨by decide +kernel, by decide +kernel⟩, List.mem_of_getElem? (i := 23) (by decide +kernel), List.mem_of_getElem? (i := 730) (by decide +kernel), List.mem_of_getElem? (i := 731) (by decide +kernel)⟩
theorem lw_p24 : lw_okq (⟨"VersionResolver", "digestPack", "(JI)J"⟩, 6) := ⟨⟨by decide +kernel, by decide +kernel⟩, List.mem_of_getElem? (i := 15) (by decide +kernel), List.mem_of_getElem? (i := 786) (by decide +kernel), List.mem_of_getElem? (i := 787) (by decide +kernel)⟩
theorem lw_p25 : lw_okq (⟨"VersionResolver", "digestOutcome", "(J)J"⟩, 6) := ⟨⟨by decide +kernel, by decide +kernel⟩, List.mem_of_getElem? (i := 15) (by decide +kernel), List.mem_of_getElem? (i := 791) (by decide +kernel), List.mem_of_getElem? (i := 792) (by decide +kernel)⟩
theorem lw_p26 : lw_okq (⟨"VersionResolverModel", "indexOf", "(II)I"⟩, 22) := ⟨⟨by decide +kernel, by decide +kernel⟩, List.mem_of_getElem? (i := 799) (by decide +kernel), List.mem_of_getElem? (i := 890) (by decide +kernel), List.mem_of_getElem? (i := 891) (by decide +kernel)⟩
theorem lw_p27 : lw_okq (⟨"VersionResolverModel", "keeps", "()V"⟩, 22) := ⟨⟨by decide +kernel, by decide +kernel⟩, List.mem_of_getElem? (i := 799) (by decide +kernel), List.mem_of_getElem? (i := 894) (by decide +kernel), List.mem_of_getElem? (i := 895) (by decide +kernel)⟩
theorem lw_p28 : lw_okq (⟨"VersionResolverModel", "puts", "(II)V"⟩, 22) := ⟨⟨by decide +kernel, by decide +kernel⟩, List.mem_of_getElem? (i := 799) (by decide +kernel), List.mem_of_getElem? (i := 898) (by decide +kernel), List.mem_of_getElem? (i := 899) (by decide +kernel)⟩
theorem lw_p29 : lw_okq (⟨"VersionResolverModel", "takes", "(II)V"⟩, 22) := ⟨⟨by decide +kernel, by decide +kernel⟩, List.mem_of_getElem? (i := 799) (by decide +kernel), List.mem_of_getElem? (i := 906) (by decide +kernel), List.mem_of_getElem? (i := 907) (by decide +kernel)⟩
theorem lw_p30 : lw_okq (⟨"VersionResolverModel", "reads", "(Z)V"⟩, 22) := ⟨⟨by decide +kernel, by decide +kernel⟩, List.mem_of_getElem? (i := 799) (by decide +kernel), List.mem_of_getElem? (i := 938) (by decide +kernel), List.mem_of_getElem? (i := 939) (by decide +kernel)⟩
theorem lw_p31 : lw_okq (⟨"VersionResolverModel", "blanks", "()V"⟩, 22) := ⟨⟨by decide +kernel, by decide +kernel⟩, List.mem_of_getElem? (i := 799) (by decide +kernel), List.mem_of_getElem? (i := 942) (by decide +kernel), List.mem_of_getElem? (i := 943) (by decide +kernel)⟩
def lw_privs_2 : List (MethodName × Nat) := [(⟨"VersionResolver$RuleText", "lowEnd", "(IZ)I"⟩, 14), (⟨"VersionResolver$RuleText", "highEnd", "(IZ)I"⟩, 14), (⟨"VersionResolver$RuleText", "lastAlike", "(I)I"⟩, 14), (⟨"VersionResolver$RuleText", "expectEnd", "()V"⟩, 14), (⟨"VersionResolver$RuleText", "parseBetween", "(II)I"⟩, 14), (⟨"VersionResolver$Puzzle", "narrowByRule", "(IJ)J"⟩, 11), (⟨"VersionResolver$Outcome", "findReasons", "()V"⟩, 15), (⟨"VersionResolver$Outcome", "reachFrom", "(II)I"⟩, 15), (⟨"VersionResolver", "digestPack", "(JI)J"⟩, 6), (⟨"VersionResolver", "digestOutcome", "(J)J"⟩, 6), (⟨"VersionResolverModel", "indexOf", "(II)I"⟩, 22), (⟨"VersionResolverModel", "keeps", "()V"⟩, 22), (⟨"VersionResolverModel", "puts", "(II)V"⟩, 22), (⟨"VersionResolverModel", "takes", "(II)V"⟩, 22), (⟨"VersionResolverModel", "reads", "(Z)V"⟩, 22), (⟨"VersionResolverModel", "blanks", "()V"⟩, 22)]
theorem lw_r2 : ∀ q ∈ lw_privs_2, lw_okq q := List.forall_mem_cons.mpr ⟨lw_p16, List.forall_mem_cons.mpr ⟨lw_p17, List.forall_mem_cons.mpr ⟨lw_p18, List.forall_mem_cons.mpr ⟨lw_p19, List.forall_mem_cons.mpr ⟨lw_p20, List.forall_mem_cons.mpr ⟨lw_p21, List.forall_mem_cons.mpr ⟨lw_p22, List.forall_mem_cons.mpr ⟨lw_p23, List.forall_mem_cons.mpr ⟨lw_p24, List.forall_mem_cons.mpr ⟨lw_p25, List.forall_mem_cons.mpr ⟨lw_p26, List.forall_mem_cons.mpr ⟨lw_p27, List.forall_mem_cons.mpr ⟨lw_p28, List.forall_mem_cons.mpr ⟨lw_p29, List.forall_mem_cons.mpr ⟨lw_p30, List.forall_mem_cons.mpr ⟨lw_p31, fun _ h => absurd h List.not_mem_nil⟩⟩⟩⟩⟩⟩⟩⟩⟩⟩⟩⟩⟩⟩⟩⟩
theorem lw_p32 : lw_okq (⟨"VersionResolverModel", "next", "()I"⟩, 22) := ⟨⟨by decide +kernel, by decide +kernel⟩, List.mem_of_getElem? (i := 799) (by decide +kernel), List.mem_of_getElem? (i := 946) (by decide +kernel), List.mem_of_getElem? (i := 947) (by decide +kernel)⟩
theorem lw_p33 : lw_okq (⟨"VersionResolverModel", "range", "(I)V"⟩, 22) := ⟨⟨by decide +kernel, by decide +kernel⟩, List.mem_of_getElem? (i := 799) (by decide +kernel), List.mem_of_getElem? (i := 950) (by decide +kernel), List.mem_of_getElem? (i := 951) (by decide +kernel)⟩
theorem lw_p34 : lw_okq (⟨"VersionResolverModel", "bound", "()V"⟩, 22) := ⟨⟨by decide +kernel, by decide +kernel⟩, List.mem_of_getElem? (i := 799) (by decide +kernel), List.mem_of_getElem? (i := 954) (by decide +kernel), List.mem_of_getElem? (i := 955) (by decide +kernel)⟩
theorem lw_p35 : lw_okq (⟨"VersionResolverModel", "isBound", "()Z"⟩, 22) := ⟨⟨by decide +kernel, by decide +kernel⟩, List.mem_of_getElem? (i := 799) (by decide +kernel), List.mem_of_getElem? (i := 958) (by decide +kernel), List.mem_of_getElem? (i := 959) (by decide +kernel)⟩
theorem lw_p36 : lw_okq (⟨"VersionResolverModel", "isDigit", "()Z"⟩, 22) := ⟨⟨by decide +kernel, by decide +kernel⟩, List.mem_of_getElem? (i := 799) (by decide +kernel), List.mem_of_getElem? (i := 962) (by decide +kernel), List.mem_of_getElem? (i := 963) (by decide +kernel)⟩
theorem lw_p37 : lw_okq (⟨"VersionResolverModel", "fails", "()V"⟩, 22) := ⟨⟨by decide +kernel, by decide +kernel⟩, List.mem_of_getElem? (i := 799) (by decide +kernel), List.mem_of_getElem? (i := 966) (by decide +kernel), List.mem_of_getElem? (i := 967) (by decide +kernel)⟩
theorem lw_p38 : lw_okq (⟨"VersionResolverModel", "versions", "(IZ)V"⟩, 22) := ⟨⟨by decide +kernel, by decide +kernel⟩, List.mem_of_getElem? (i := 799) (by decide +kernel), List.mem_of_getElem? (i := 970) (by decide +kernel), List.mem_of_getElem? (i := 971) (by decide +kernel)⟩
theorem lw_p39 : lw_okq (⟨"VersionResolverModel", "narrows", "(II)V"⟩, 22) := ⟨⟨by decide +kernel, by decide +kernel⟩, List.mem_of_getElem? (i := 799) (by decide +kernel), List.mem_of_getElem? (i := 974) (by decide +kernel), List.mem_of_getElem? (i := 975) (by decide +kernel)⟩
theorem lw_p40 : lw_okq (⟨"VersionResolverModel", "feature", "()V"⟩, 22) := ⟨⟨by decide +kernel, by decide +kernel⟩, List.mem_of_getElem? (i := 799) (by decide +kernel), List.mem_of_getElem? (i := 978) (by decide +kernel), List.mem_of_getElem? (i := 979) (by decide +kernel)⟩
theorem lw_p41 : lw_okq (⟨"VersionResolverModel", "pack", "()I"⟩, 22) := ⟨⟨by decide +kernel, by decide +kernel⟩, List.mem_of_getElem? (i := 799) (by decide +kernel), List.mem_of_getElem? (i := 982) (by decide +kernel), List.mem_of_getElem? (i := 983) (by decide +kernel)⟩
theorem lw_p42 : lw_okq (⟨"VersionResolverModel", "takesSign", "(I)V"⟩, 22) := ⟨⟨by decide +kernel, by decide +kernel⟩, List.mem_of_getElem? (i := 799) (by decide +kernel), List.mem_of_getElem? (i := 986) (by decide +kernel), List.mem_of_getElem? (i := 987) (by decide +kernel)⟩
theorem lw_p43 : lw_okq (⟨"VersionResolverModel", "of", "(II)I"⟩, 22) := ⟨⟨by decide +kernel, by decide +kernel⟩, List.mem_of_getElem? (i := 799) (by decide +kernel), List.mem_of_getElem? (i := 1006) (by decide +kernel), List.mem_of_getElem? (i := 1007) (by decide +kernel)⟩
theorem lw_p44 : lw_okq (⟨"VersionResolverModel", "isActive", "(I)Z"⟩, 22) := ⟨⟨by decide +kernel, by decide +kernel⟩, List.mem_of_getElem? (i := 799) (by decide +kernel), List.mem_of_getElem? (i := 1010) (by decide +kernel), List.mem_of_getElem? (i := 1011) (by decide +kernel)⟩
theorem lw_p45 : lw_okq (⟨"VersionResolverModel", "within", "(III)I"⟩, 22) := ⟨⟨by decide +kernel, by decide +kernel⟩, List.mem_of_getElem? (i := 799) (by decide +kernel), List.mem_of_getElem? (i := 1014) (by decide +kernel), List.mem_of_getElem? (i := 1015) (by decide +kernel)⟩
theorem lw_p46 : lw_okq (⟨"VersionResolverModel", "solves", "()Z"⟩, 22) := ⟨⟨by decide +kernel, by decide +kernel⟩, List.mem_of_getElem? (i := 799) (by decide +kernel), List.mem_of_getElem? (i := 1025) (by decide +kernel), List.mem_of_getElem? (i := 1026) (by decide +kernel)⟩
theorem lw_p47 : lw_okq (⟨"VersionResolverModel", "prepares", "()V"⟩, 22) := ⟨⟨by decide +kernel, by decide +kernel⟩, List.mem_of_getElem? (i := 799) (by decide +kernel), List.mem_of_getElem? (i := 1029) (by decide +kernel), List.mem_of_getElem? (i := 1030) (by decide +kernel)⟩
def lw_privs_3 : List (MethodName × Nat) := [(⟨"VersionResolverModel", "next", "()I"⟩, 22), (⟨"VersionResolverModel", "range", "(I)V"⟩, 22), (⟨"VersionResolverModel", "bound", "()V"⟩, 22), (⟨"VersionResolverModel", "isBound", "()Z"⟩, 22), (⟨"VersionResolverModel", "isDigit", "()Z"⟩, 22), (⟨"VersionResolverModel", "fails", "()V"⟩, 22), (⟨"VersionResolverModel", "versions", "(IZ)V"⟩, 22), (⟨"VersionResolverModel", "narrows", "(II)V"⟩, 22), (⟨"VersionResolverModel", "feature", "()V"⟩, 22), (⟨"VersionResolverModel", "pack", "()I"⟩, 22), (⟨"VersionResolverModel", "takesSign", "(I)V"⟩, 22), (⟨"VersionResolverModel", "of", "(II)I"⟩, 22), (⟨"VersionResolverModel", "isActive", "(I)Z"⟩, 22), (⟨"VersionResolverModel", "within", "(III)I"⟩, 22), (⟨"VersionResolverModel", "solves", "()Z"⟩, 22), (⟨"VersionResolverModel", "prepares", "()V"⟩, 22)]
theorem lw_r3 : ∀ q ∈ lw_privs_3, lw_okq q := List.forall_mem_cons.mpr ⟨lw_p32, List.forall_mem_cons.mpr ⟨lw_p33, List.forall_mem_cons.mpr ⟨lw_p34, List.forall_mem_cons.mpr ⟨lw_p35, List.forall_mem_cons.mpr ⟨lw_p36, List.forall_mem_cons.mpr ⟨lw_p37, List.forall_mem_cons.mpr ⟨lw_p38, List.forall_mem_cons.mpr ⟨lw_p39, List.forall_mem_cons.mpr ⟨lw_p40, List.forall_mem_cons.mpr ⟨lw_p41, List.forall_mem_cons.mpr ⟨lw_p42, List.forall_mem_cons.mpr ⟨lw_p43, List.forall_mem_cons.mpr ⟨lw_p44, List.forall_mem_cons.mpr ⟨lw_p45, List.forall_mem_cons.mpr ⟨lw_p46, List.forall_mem_cons.mpr ⟨lw_p47, fun _ h => absurd h List.not_mem_nil⟩⟩⟩⟩⟩⟩⟩⟩⟩⟩⟩⟩⟩⟩⟩⟩
theorem lw_p48 : lw_okq (⟨"VersionResolverModel", "options", "(I)I"⟩, 22) := ⟨⟨by decide +kernel, by decide +kernel⟩, List.mem_of_getElem? (i := 799) (by decide +kernel), List.mem_of_getElem? (i := 1033) (by decide +kernel), List.mem_of_getElem? (i := 1034) (by decide +kernel)⟩
theorem lw_p49 : lw_okq (⟨"VersionResolverModel", "finds", "(IZ)I"⟩, 22) := ⟨⟨by decide +kernel, by decide +kernel⟩, List.mem_of_getElem? (i := 799) (by decide +kernel), List.mem_of_getElem? (i := 1038) (by decide +kernel), List.mem_of_getElem? (i := 1039) (by decide +kernel)⟩
theorem lw_p50 : lw_okq (⟨"VersionResolverModel", "fits", "(I)Z"⟩, 22) := ⟨⟨by decide +kernel, by decide +kernel⟩, List.mem_of_getElem? (i := 799) (by decide +kernel), List.mem_of_getElem? (i := 1042) (by decide +kernel), List.mem_of_getElem? (i := 1043) (by decide +kernel)⟩
theorem lw_p51 : lw_okq (⟨"VersionResolverModel", "applies", "(I[I)Z"⟩, 22) := ⟨⟨by decide +kernel, by decide +kernel⟩, List.mem_of_getElem? (i := 799) (by decide +kernel), List.mem_of_getElem? (i := 1046) (by decide +kernel), List.mem_of_getElem? (i := 1047) (by decide +kernel)⟩
theorem lw_p52 : lw_okq (⟨"VersionResolverModel", "canBeBetter", "(I)Z"⟩, 22) := ⟨⟨by decide +kernel, by decide +kernel⟩, List.mem_of_getElem? (i := 799) (by decide +kernel), List.mem_of_getElem? (i := 1050) (by decide +kernel), List.mem_of_getElem? (i := 1051) (by decide +kernel)⟩
theorem lw_p53 : lw_okq (⟨"VersionResolverModel", "changes", "(I)I"⟩, 22) := ⟨⟨by decide +kernel, by decide +kernel⟩, List.mem_of_getElem? (i := 799) (by decide +kernel), List.mem_of_getElem? (i := 1054) (by decide +kernel), List.mem_of_getElem? (i := 1055) (by decide +kernel)⟩
theorem lw_p54 : lw_okq (⟨"VersionResolverModel", "versionOf", "(II)I"⟩, 22) := ⟨⟨by decide +kernel, by decide +kernel⟩, List.mem_of_getElem? (i := 799) (by decide +kernel), List.mem_of_getElem? (i := 1058) (by decide +kernel), List.mem_of_getElem? (i := 1059) (by decide +kernel)⟩
theorem lw_p55 : lw_okq (⟨"VersionResolverModel", "present", "(I)I"⟩, 22) := ⟨⟨by decide +kernel, by decide +kernel⟩, List.mem_of_getElem? (i := 799) (by decide +kernel), List.mem_of_getElem? (i := 1062) (by decide +kernel), List.mem_of_getElem? (i := 1063) (by decide +kernel)⟩
theorem lw_p56 : lw_okq (⟨"VersionResolverModel", "notes", "()V"⟩, 22) := ⟨⟨by decide +kernel, by decide +kernel⟩, List.mem_of_getElem? (i := 799) (by decide +kernel), List.mem_of_getElem? (i := 1066) (by decide +kernel), List.mem_of_getElem? (i := 1067) (by decide +kernel)⟩
theorem lw_p57 : lw_okq (⟨"VersionResolverModel", "narrowsBy", "(I)Z"⟩, 22) := ⟨⟨by decide +kernel, by decide +kernel⟩, List.mem_of_getElem? (i := 799) (by decide +kernel), List.mem_of_getElem? (i := 1090) (by decide +kernel), List.mem_of_getElem? (i := 1091) (by decide +kernel)⟩
theorem lw_p58 : lw_okq (⟨"VersionResolverModel", "leads", "(I)V"⟩, 22) := ⟨⟨by decide +kernel, by decide +kernel⟩, List.mem_of_getElem? (i := 799) (by decide +kernel), List.mem_of_getElem? (i := 1098) (by decide +kernel), List.mem_of_getElem? (i := 1099) (by decide +kernel)⟩
theorem lw_p59 : lw_okq (⟨"VersionResolverModel", "requires", "(I)Z"⟩, 22) := ⟨⟨by decide +kernel, by decide +kernel⟩, List.mem_of_getElem? (i := 799) (by decide +kernel), List.mem_of_getElem? (i := 1102) (by decide +kernel), List.mem_of_getElem? (i := 1103) (by decide +kernel)⟩
theorem lw_p60 : lw_okq (⟨"VersionResolverModel", "first", "(II)I"⟩, 22) := ⟨⟨by decide +kernel, by decide +kernel⟩, List.mem_of_getElem? (i := 799) (by decide +kernel), List.mem_of_getElem? (i := 1106) (by decide +kernel), List.mem_of_getElem? (i := 1107) (by decide +kernel)⟩
theorem lw_p61 : lw_okq (⟨"VersionResolverModel", "refuses", "()I"⟩, 22) := ⟨⟨by decide +kernel, by decide +kernel⟩, List.mem_of_getElem? (i := 799) (by decide +kernel), List.mem_of_getElem? (i := 1114) (by decide +kernel), List.mem_of_getElem? (i := 1115) (by decide +kernel)⟩
theorem lw_p62 : lw_okq (⟨"VersionResolverModel", "actives", "()I"⟩, 22) := ⟨⟨by decide +kernel, by decide +kernel⟩, List.mem_of_getElem? (i := 799) (by decide +kernel), List.mem_of_getElem? (i := 1126) (by decide +kernel), List.mem_of_getElem? (i := 1127) (by decide +kernel)⟩
theorem lw_p63 : lw_okq (⟨"VersionResolverModel", "mixes", "(I)V"⟩, 22) := ⟨⟨by decide +kernel, by decide +kernel⟩, List.mem_of_getElem? (i := 799) (by decide +kernel), List.mem_of_getElem? (i := 1136) (by decide +kernel), List.mem_of_getElem? (i := 1137) (by decide +kernel)⟩
def lw_privs_4 : List (MethodName × Nat) := [(⟨"VersionResolverModel", "options", "(I)I"⟩, 22), (⟨"VersionResolverModel", "finds", "(IZ)I"⟩, 22), (⟨"VersionResolverModel", "fits", "(I)Z"⟩, 22), (⟨"VersionResolverModel", "applies", "(I[I)Z"⟩, 22), (⟨"VersionResolverModel", "canBeBetter", "(I)Z"⟩, 22), (⟨"VersionResolverModel", "changes", "(I)I"⟩, 22), (⟨"VersionResolverModel", "versionOf", "(II)I"⟩, 22), (⟨"VersionResolverModel", "present", "(I)I"⟩, 22), (⟨"VersionResolverModel", "notes", "()V"⟩, 22), (⟨"VersionResolverModel", "narrowsBy", "(I)Z"⟩, 22), (⟨"VersionResolverModel", "leads", "(I)V"⟩, 22), (⟨"VersionResolverModel", "requires", "(I)Z"⟩, 22), (⟨"VersionResolverModel", "first", "(II)I"⟩, 22), (⟨"VersionResolverModel", "refuses", "()I"⟩, 22), (⟨"VersionResolverModel", "actives", "()I"⟩, 22), (⟨"VersionResolverModel", "mixes", "(I)V"⟩, 22)]
theorem lw_r4 : ∀ q ∈ lw_privs_4, lw_okq q := List.forall_mem_cons.mpr ⟨lw_p48, List.forall_mem_cons.mpr ⟨lw_p49, List.forall_mem_cons.mpr ⟨lw_p50, List.forall_mem_cons.mpr ⟨lw_p51, List.forall_mem_cons.mpr ⟨lw_p52, List.forall_mem_cons.mpr ⟨lw_p53, List.forall_mem_cons.mpr ⟨lw_p54, List.forall_mem_cons.mpr ⟨lw_p55, List.forall_mem_cons.mpr ⟨lw_p56, List.forall_mem_cons.mpr ⟨lw_p57, List.forall_mem_cons.mpr ⟨lw_p58, List.forall_mem_cons.mpr ⟨lw_p59, List.forall_mem_cons.mpr ⟨lw_p60, List.forall_mem_cons.mpr ⟨lw_p61, List.forall_mem_cons.mpr ⟨lw_p62, List.forall_mem_cons.mpr ⟨lw_p63, fun _ h => absurd h List.not_mem_nil⟩⟩⟩⟩⟩⟩⟩⟩⟩⟩⟩⟩⟩⟩⟩⟩
def lw_privs : List (MethodName × Nat) := lw_privs_1 ++ (lw_privs_2 ++ (lw_privs_3 ++ (lw_privs_4)))
def lw_tbl : List Cond := k2_sels lw_privs ++ tables_1
theorem lw_privs_ok : ∀ q ∈ lw_privs, lw_okq q := by
  show ∀ q ∈ lw_privs_1 ++ (lw_privs_2 ++ (lw_privs_3 ++ (lw_privs_4))), lw_okq q
  exact List.forall_mem_append.mpr ⟨lw_r1, List.forall_mem_append.mpr ⟨lw_r2, List.forall_mem_append.mpr ⟨lw_r3, lw_r4⟩⟩⟩

def RX0 : String := "VersionResolver$History"
def TX0 : u_T := fun k => match k with
  | 0 => ("VersionResolver$History", "states", "[LVersionResolver$State;", true)
  | 1 => ("VersionResolver$History", "oldest", "I", false)
  | _ => ("VersionResolver$History", "used", "I", false)
def tyX0 : Nat → FieldType := fun k => match k with
  | 0 => .array (.object "VersionResolver$State")
  | 1 => .int
  | _ => .int
theorem nmX0 : ∀ a, a < 3 → ∀ b, b < 3 → a ≠ b → (TX0 a).2.1 ≠ (TX0 b).2.1 := by decide +kernel
theorem tyX0_ok : ∀ k, k < 3 → parseFieldDescriptor (TX0 k).2.2.1 = some (tyX0 k) := by decide +kernel
abbrev cX0_init : ByteArray := prog_2_method_1_code
def yX0_init : MethodName := ⟨RX0, "<init>", "()V"⟩
abbrev cX0_size : ByteArray := prog_2_method_2_code
def yX0_size : MethodName := ⟨RX0, "size", "()I"⟩
abbrev cX0_keep : ByteArray := prog_2_method_3_code
def yX0_keep : MethodName := ⟨RX0, "keep", "(LVersionResolver$State;)V"⟩
abbrev cX0_giveBack : ByteArray := prog_2_method_4_code
def yX0_giveBack : MethodName := ⟨RX0, "giveBack", "(LVersionResolver$State;)V"⟩
def RX1 : String := "VersionResolver$Outcome"
def TX1 : u_T := fun k => match k with
  | 0 => ("VersionResolver$Outcome", "state", "LVersionResolver$State;", true)
  | 1 => ("VersionResolver$Outcome", "puzzle", "LVersionResolver$Puzzle;", true)
  | 2 => ("VersionResolver$Outcome", "active", "I", false)
  | 3 => ("VersionResolver$Outcome", "loaded", "Z", false)
  | 4 => ("VersionResolver$Outcome", "best", "J", false)
  | 5 => ("VersionResolver$Outcome", "bestKnown", "Z", false)
  | 6 => ("VersionResolver$Outcome", "left", "J", false)
  | 7 => ("VersionResolver$Outcome", "leftKnown", "Z", false)
  | 8 => ("VersionResolver$Outcome", "refused", "I", false)
  | 9 => ("VersionResolver$Outcome", "refusedKnown", "Z", false)
  | 10 => ("VersionResolver$Outcome", "reasonsKnown", "Z", false)
  | 11 => ("VersionResolver$Outcome", "lastRule", "[I", true)
  | 12 => ("VersionResolver$Outcome", "packBefore", "[I", true)
  | 13 => ("VersionResolver$Outcome", "steps", "[I", true)
  | _ => ("VersionResolver$Outcome", "queue", "[I", true)
def tyX1 : Nat → FieldType := fun k => match k with
  | 0 => .object "VersionResolver$State"
  | 1 => .object "VersionResolver$Puzzle"
  | 2 => .int
  | 3 => .boolean
  | 4 => .long
  | 5 => .boolean
  | 6 => .long
  | 7 => .boolean
  | 8 => .int
  | 9 => .boolean
  | 10 => .boolean
  | 11 => .array .int
  | 12 => .array .int
  | 13 => .array .int
  | _ => .array .int
theorem nmX1 : ∀ a, a < 15 → ∀ b, b < 15 → a ≠ b → (TX1 a).2.1 ≠ (TX1 b).2.1 := by decide +kernel
theorem tyX1_ok : ∀ k, k < 15 → parseFieldDescriptor (TX1 k).2.2.1 = some (tyX1 k) := by decide +kernel
abbrev cX1_init : ByteArray := prog_3_method_1_code
def yX1_init : MethodName := ⟨RX1, "<init>", "()V"⟩
abbrev cX1_forget : ByteArray := prog_3_method_2_code
def yX1_forget : MethodName := ⟨RX1, "forget", "()V"⟩
abbrev cX1_load : ByteArray := prog_3_method_3_code
def yX1_load : MethodName := ⟨RX1, "load", "()V"⟩
abbrev cX1_hasSolution : ByteArray := prog_3_method_4_code
def yX1_hasSolution : MethodName := ⟨RX1, "hasSolution", "()Z"⟩
abbrev cX1_versionOf : ByteArray := prog_3_method_5_code
def yX1_versionOf : MethodName := ⟨RX1, "versionOf", "(I)I"⟩
abbrev cX1_numberOf : ByteArray := prog_3_method_6_code
def yX1_numberOf : MethodName := ⟨RX1, "numberOf", "(I)I"⟩
abbrev cX1_appliedCount : ByteArray := prog_3_method_7_code
def yX1_appliedCount : MethodName := ⟨RX1, "appliedCount", "()I"⟩
abbrev cX1_isActive : ByteArray := prog_3_method_8_code
def yX1_isActive : MethodName := ⟨RX1, "isActive", "(I)Z"⟩
abbrev cX1_differences : ByteArray := prog_3_method_9_code
def yX1_differences : MethodName := ⟨RX1, "differences", "(LVersionResolver$Outcome;)I"⟩
abbrev cX1_solutionCount : ByteArray := prog_3_method_10_code
def yX1_solutionCount : MethodName := ⟨RX1, "solutionCount", "(I)I"⟩
abbrev cX1_isPossible : ByteArray := prog_3_method_11_code
def yX1_isPossible : MethodName := ⟨RX1, "isPossible", "(II)Z"⟩
abbrev cX1_valuesLeft : ByteArray := prog_3_method_12_code
def yX1_valuesLeft : MethodName := ⟨RX1, "valuesLeft", "(I)I"⟩
abbrev cX1_refusedRules : ByteArray := prog_3_method_13_code
def yX1_refusedRules : MethodName := ⟨RX1, "refusedRules", "()I"⟩
abbrev cX1_reasonLength : ByteArray := prog_3_method_14_code
def yX1_reasonLength : MethodName := ⟨RX1, "reasonLength", "(I)I"⟩
abbrev cX1_reasonAt : ByteArray := prog_3_method_15_code
def yX1_reasonAt : MethodName := ⟨RX1, "reasonAt", "(II)I"⟩
abbrev cX1_findReasons : ByteArray := prog_3_method_16_code
def yX1_findReasons : MethodName := ⟨RX1, "findReasons", "()V"⟩
abbrev cX1_reachFrom : ByteArray := prog_3_method_17_code
def yX1_reachFrom : MethodName := ⟨RX1, "reachFrom", "(II)I"⟩
def RX2 : String := "VersionResolver$Puzzle"
def TX2 : u_T := fun k => match k with
  | 0 => ("VersionResolver$Puzzle", "conditionPack", "[I", true)
  | 1 => ("VersionResolver$Puzzle", "conditionValues", "[I", true)
  | 2 => ("VersionResolver$Puzzle", "targetPack", "[I", true)
  | 3 => ("VersionResolver$Puzzle", "holdingValues", "[I", true)
  | 4 => ("VersionResolver$Puzzle", "fits", "[J", true)
  | 5 => ("VersionResolver$Puzzle", "published", "J", false)
  | 6 => ("VersionResolver$Puzzle", "kept", "J", false)
  | 7 => ("VersionResolver$Puzzle", "keptPresent", "J", false)
  | 8 => ("VersionResolver$Puzzle", "open", "J", false)
  | 9 => ("VersionResolver$Puzzle", "imposed", "I", false)
  | _ => ("VersionResolver$Puzzle", "nextLimit", "I", false)
def tyX2 : Nat → FieldType := fun k => match k with
  | 0 => .array .int
  | 1 => .array .int
  | 2 => .array .int
  | 3 => .array .int
  | 4 => .array .long
  | 5 => .long
  | 6 => .long
  | 7 => .long
  | 8 => .long
  | 9 => .int
  | _ => .int
theorem nmX2 : ∀ a, a < 11 → ∀ b, b < 11 → a ≠ b → (TX2 a).2.1 ≠ (TX2 b).2.1 := by decide +kernel
theorem tyX2_ok : ∀ k, k < 11 → parseFieldDescriptor (TX2 k).2.2.1 = some (tyX2 k) := by decide +kernel
abbrev cX2_init : ByteArray := prog_4_method_1_code
def yX2_init : MethodName := ⟨RX2, "<init>", "()V"⟩
abbrev cX2_load : ByteArray := prog_4_method_2_code
def yX2_load : MethodName := ⟨RX2, "load", "(LVersionResolver$State;)V"⟩
abbrev cX2_valuesOf : ByteArray := prog_4_method_3_code
def yX2_valuesOf : MethodName := ⟨RX2, "valuesOf", "(JI)I"⟩
abbrev cX2_ruleApplies : ByteArray := prog_4_method_4_code
def yX2_ruleApplies : MethodName := ⟨RX2, "ruleApplies", "(IJ)Z"⟩
abbrev cX2_impose : ByteArray := prog_4_method_5_code
def yX2_impose : MethodName := ⟨RX2, "impose", "(I)V"⟩
abbrev cX2_imposeRule : ByteArray := prog_4_method_6_code
def yX2_imposeRule : MethodName := ⟨RX2, "imposeRule", "(I)V"⟩
abbrev cX2_takeUnfit : ByteArray := prog_4_method_7_code
def yX2_takeUnfit : MethodName := ⟨RX2, "takeUnfit", "()V"⟩
abbrev cX2_packsOf : ByteArray := prog_4_method_8_code
def yX2_packsOf : MethodName := ⟨RX2, "packsOf", "(J)J"⟩
abbrev cX2_best : ByteArray := prog_4_method_9_code
def yX2_best : MethodName := ⟨RX2, "best", "(I)J"⟩
abbrev cX2_isSolvable : ByteArray := prog_4_method_10_code
def yX2_isSolvable : MethodName := ⟨RX2, "isSolvable", "(I)Z"⟩
abbrev cX2_isSolvableWith : ByteArray := prog_4_method_11_code
def yX2_isSolvableWith : MethodName := ⟨RX2, "isSolvableWith", "(III)Z"⟩
abbrev cX2_firstWithin : ByteArray := prog_4_method_12_code
def yX2_firstWithin : MethodName := ⟨RX2, "firstWithin", "(LVersionResolver$Puzzle;IJI)J"⟩
abbrev cX2_leastCost : ByteArray := prog_4_method_13_code
def yX2_leastCost : MethodName := ⟨RX2, "leastCost", "(J)I"⟩
abbrev cX2_changesOf : ByteArray := prog_4_method_14_code
def yX2_changesOf : MethodName := ⟨RX2, "changesOf", "(J)I"⟩
abbrev cX2_presentOf : ByteArray := prog_4_method_15_code
def yX2_presentOf : MethodName := ⟨RX2, "presentOf", "(J)I"⟩
abbrev cX2_solutionsOf : ByteArray := prog_4_method_16_code
def yX2_solutionsOf : MethodName := ⟨RX2, "solutionsOf", "(II)I"⟩
abbrev cX2_solutionsFrom : ByteArray := prog_4_method_17_code
def yX2_solutionsFrom : MethodName := ⟨RX2, "solutionsFrom", "(LVersionResolver$Puzzle;IJI)I"⟩
abbrev cX2_narrowedSpots : ByteArray := prog_4_method_18_code
def yX2_narrowedSpots : MethodName := ⟨RX2, "narrowedSpots", "(I)J"⟩
abbrev cX2_narrowByRule : ByteArray := prog_4_method_19_code
def yX2_narrowByRule : MethodName := ⟨RX2, "narrowByRule", "(IJ)J"⟩
def RX3 : String := "VersionResolver$Range"
def TX3 : u_T := fun k => match k with
  | 0 => ("VersionResolver$Range", "lows", "[I", true)
  | 1 => ("VersionResolver$Range", "highs", "[I", true)
  | _ => ("VersionResolver$Range", "parts", "I", false)
def tyX3 : Nat → FieldType := fun k => match k with
  | 0 => .array .int
  | 1 => .array .int
  | _ => .int
theorem nmX3 : ∀ a, a < 3 → ∀ b, b < 3 → a ≠ b → (TX3 a).2.1 ≠ (TX3 b).2.1 := by decide +kernel
theorem tyX3_ok : ∀ k, k < 3 → parseFieldDescriptor (TX3 k).2.2.1 = some (tyX3 k) := by decide +kernel
abbrev cX3_init : ByteArray := prog_5_method_1_code
def yX3_init : MethodName := ⟨RX3, "<init>", "(I)V"⟩
abbrev cX3_empty : ByteArray := prog_5_method_2_code
def yX3_empty : MethodName := ⟨RX3, "empty", "()V"⟩
abbrev cX3_appendPart : ByteArray := prog_5_method_3_code
def yX3_appendPart : MethodName := ⟨RX3, "appendPart", "(II)V"⟩
abbrev cX3_has : ByteArray := prog_5_method_4_code
def yX3_has : MethodName := ⟨RX3, "has", "(I)Z"⟩
abbrev cX3_trimmed : ByteArray := prog_5_method_5_code
def yX3_trimmed : MethodName := ⟨RX3, "trimmed", "()LVersionResolver$Range;"⟩
def RX4 : String := "VersionResolver$Rule"
def TX4 : u_T := fun k => match k with
  | 0 => ("VersionResolver$Rule", "feature", "I", true)
  | 1 => ("VersionResolver$Rule", "conditionPack", "I", true)
  | 2 => ("VersionResolver$Rule", "condition", "LVersionResolver$Range;", true)
  | 3 => ("VersionResolver$Rule", "forbids", "Z", true)
  | 4 => ("VersionResolver$Rule", "targetPack", "I", true)
  | _ => ("VersionResolver$Rule", "target", "LVersionResolver$Range;", true)
def tyX4 : Nat → FieldType := fun k => match k with
  | 0 => .int
  | 1 => .int
  | 2 => .object "VersionResolver$Range"
  | 3 => .boolean
  | 4 => .int
  | _ => .object "VersionResolver$Range"
theorem nmX4 : ∀ a, a < 6 → ∀ b, b < 6 → a ≠ b → (TX4 a).2.1 ≠ (TX4 b).2.1 := by decide +kernel
theorem tyX4_ok : ∀ k, k < 6 → parseFieldDescriptor (TX4 k).2.2.1 = some (tyX4 k) := by decide +kernel
abbrev cX4_init : ByteArray := prog_6_method_1_code
def yX4_init : MethodName := ⟨RX4, "<init>", "(IILVersionResolver$Range;ZILVersionResolver$Range;)V"⟩
abbrev cX4_isActive : ByteArray := prog_6_method_2_code
def yX4_isActive : MethodName := ⟨RX4, "isActive", "(I)Z"⟩
def RX5 : String := "VersionResolver$RuleText"
def TX5 : u_T := fun k => match k with
  | 0 => ("VersionResolver$RuleText", "bytes", "[I", true)
  | 1 => ("VersionResolver$RuleText", "used", "I", false)
  | 2 => ("VersionResolver$RuleText", "at", "I", false)
  | 3 => ("VersionResolver$RuleText", "failed", "Z", false)
  | 4 => ("VersionResolver$RuleText", "feature", "I", false)
  | 5 => ("VersionResolver$RuleText", "conditionPack", "I", false)
  | 6 => ("VersionResolver$RuleText", "condition", "LVersionResolver$Range;", true)
  | 7 => ("VersionResolver$RuleText", "forbids", "Z", false)
  | 8 => ("VersionResolver$RuleText", "targetPack", "I", false)
  | 9 => ("VersionResolver$RuleText", "target", "LVersionResolver$Range;", true)
  | 10 => ("VersionResolver$RuleText", "low", "I", false)
  | 11 => ("VersionResolver$RuleText", "high", "I", false)
  | 12 => ("VersionResolver$RuleText", "readVersion", "I", false)
  | _ => ("VersionResolver$RuleText", "readDigits", "I", false)
def tyX5 : Nat → FieldType := fun k => match k with
  | 0 => .array .int
  | 1 => .int
  | 2 => .int
  | 3 => .boolean
  | 4 => .int
  | 5 => .int
  | 6 => .object "VersionResolver$Range"
  | 7 => .boolean
  | 8 => .int
  | 9 => .object "VersionResolver$Range"
  | 10 => .int
  | 11 => .int
  | 12 => .int
  | _ => .int
theorem nmX5 : ∀ a, a < 14 → ∀ b, b < 14 → a ≠ b → (TX5 a).2.1 ≠ (TX5 b).2.1 := by decide +kernel
theorem tyX5_ok : ∀ k, k < 14 → parseFieldDescriptor (TX5 k).2.2.1 = some (tyX5 k) := by decide +kernel
abbrev cX5_init : ByteArray := prog_7_method_1_code
def yX5_init : MethodName := ⟨RX5, "<init>", "()V"⟩
abbrev cX5_length : ByteArray := prog_7_method_2_code
def yX5_length : MethodName := ⟨RX5, "length", "()I"⟩
abbrev cX5_isFull : ByteArray := prog_7_method_3_code
def yX5_isFull : MethodName := ⟨RX5, "isFull", "()Z"⟩
abbrev cX5_append : ByteArray := prog_7_method_4_code
def yX5_append : MethodName := ⟨RX5, "append", "(I)V"⟩
abbrev cX5_clear : ByteArray := prog_7_method_5_code
def yX5_clear : MethodName := ⟨RX5, "clear", "()V"⟩
abbrev cX5_byteAt : ByteArray := prog_7_method_6_code
def yX5_byteAt : MethodName := ⟨RX5, "byteAt", "(I)I"⟩
abbrev cX5_readAsRange : ByteArray := prog_7_method_7_code
def yX5_readAsRange : MethodName := ⟨RX5, "readAsRange", "()I"⟩
abbrev cX5_rangeHas : ByteArray := prog_7_method_8_code
def yX5_rangeHas : MethodName := ⟨RX5, "rangeHas", "(I)Z"⟩
abbrev cX5_readAsRule : ByteArray := prog_7_method_9_code
def yX5_readAsRule : MethodName := ⟨RX5, "readAsRule", "()I"⟩
abbrev cX5_makeRule : ByteArray := prog_7_method_10_code
def yX5_makeRule : MethodName := ⟨RX5, "makeRule", "()LVersionResolver$Rule;"⟩
abbrev cX5_start : ByteArray := prog_7_method_11_code
def yX5_start : MethodName := ⟨RX5, "start", "()V"⟩
abbrev cX5_peek : ByteArray := prog_7_method_12_code
def yX5_peek : MethodName := ⟨RX5, "peek", "()I"⟩
abbrev cX5_skipBlanks : ByteArray := prog_7_method_13_code
def yX5_skipBlanks : MethodName := ⟨RX5, "skipBlanks", "()V"⟩
abbrev cX5_take : ByteArray := prog_7_method_14_code
def yX5_take : MethodName := ⟨RX5, "take", "(I)Z"⟩
abbrev cX5_expectEnd : ByteArray := prog_7_method_15_code
def yX5_expectEnd : MethodName := ⟨RX5, "expectEnd", "()V"⟩
abbrev cX5_parseBetween : ByteArray := prog_7_method_16_code
def yX5_parseBetween : MethodName := ⟨RX5, "parseBetween", "(II)I"⟩
abbrev cX5_parseRange : ByteArray := prog_7_method_17_code
def yX5_parseRange : MethodName := ⟨RX5, "parseRange", "(LVersionResolver$Range;)V"⟩
abbrev cX5_parsePart : ByteArray := prog_7_method_18_code
def yX5_parsePart : MethodName := ⟨RX5, "parsePart", "()V"⟩
abbrev cX5_startsBound : ByteArray := prog_7_method_19_code
def yX5_startsBound : MethodName := ⟨RX5, "startsBound", "(I)Z"⟩
abbrev cX5_isSign : ByteArray := prog_7_method_20_code
def yX5_isSign : MethodName := ⟨RX5, "isSign", "(I)Z"⟩
abbrev cX5_isDigit : ByteArray := prog_7_method_21_code
def yX5_isDigit : MethodName := ⟨RX5, "isDigit", "(I)Z"⟩
abbrev cX5_parseBound : ByteArray := prog_7_method_22_code
def yX5_parseBound : MethodName := ⟨RX5, "parseBound", "()V"⟩
abbrev cX5_parseVersion : ByteArray := prog_7_method_23_code
def yX5_parseVersion : MethodName := ⟨RX5, "parseVersion", "()V"⟩
abbrev cX5_lowEnd : ByteArray := prog_7_method_24_code
def yX5_lowEnd : MethodName := ⟨RX5, "lowEnd", "(IZ)I"⟩
abbrev cX5_highEnd : ByteArray := prog_7_method_25_code
def yX5_highEnd : MethodName := ⟨RX5, "highEnd", "(IZ)I"⟩
abbrev cX5_lastAlike : ByteArray := prog_7_method_26_code
def yX5_lastAlike : MethodName := ⟨RX5, "lastAlike", "(I)I"⟩
def RX6 : String := "VersionResolver$State"
def TX6 : u_T := fun k => match k with
  | 0 => ("VersionResolver$State", "versions", "[I", true)
  | 1 => ("VersionResolver$State", "versionCounts", "[I", true)
  | 2 => ("VersionResolver$State", "lock", "[I", true)
  | 3 => ("VersionResolver$State", "rules", "[LVersionResolver$Rule;", true)
  | 4 => ("VersionResolver$State", "rulesUsed", "I", false)
  | _ => ("VersionResolver$State", "features", "I", false)
def tyX6 : Nat → FieldType := fun k => match k with
  | 0 => .array .int
  | 1 => .array .int
  | 2 => .array .int
  | 3 => .array (.object "VersionResolver$Rule")
  | 4 => .int
  | _ => .int
theorem nmX6 : ∀ a, a < 6 → ∀ b, b < 6 → a ≠ b → (TX6 a).2.1 ≠ (TX6 b).2.1 := by decide +kernel
theorem tyX6_ok : ∀ k, k < 6 → parseFieldDescriptor (TX6 k).2.2.1 = some (tyX6 k) := by decide +kernel
abbrev cX6_init : ByteArray := prog_8_method_1_code
def yX6_init : MethodName := ⟨RX6, "<init>", "()V"⟩
abbrev cX6_copyFrom : ByteArray := prog_8_method_2_code
def yX6_copyFrom : MethodName := ⟨RX6, "copyFrom", "(LVersionResolver$State;)V"⟩
abbrev cX6_versionCount : ByteArray := prog_8_method_3_code
def yX6_versionCount : MethodName := ⟨RX6, "versionCount", "(I)I"⟩
abbrev cX6_isFullAt : ByteArray := prog_8_method_4_code
def yX6_isFullAt : MethodName := ⟨RX6, "isFullAt", "(I)Z"⟩
abbrev cX6_versionAt : ByteArray := prog_8_method_5_code
def yX6_versionAt : MethodName := ⟨RX6, "versionAt", "(II)I"⟩
abbrev cX6_placeOf : ByteArray := prog_8_method_6_code
def yX6_placeOf : MethodName := ⟨RX6, "placeOf", "(II)I"⟩
abbrev cX6_insertVersion : ByteArray := prog_8_method_7_code
def yX6_insertVersion : MethodName := ⟨RX6, "insertVersion", "(II)V"⟩
abbrev cX6_removeVersion : ByteArray := prog_8_method_8_code
def yX6_removeVersion : MethodName := ⟨RX6, "removeVersion", "(II)V"⟩
abbrev cX6_versionTotal : ByteArray := prog_8_method_9_code
def yX6_versionTotal : MethodName := ⟨RX6, "versionTotal", "()I"⟩
abbrev cX6_lockOf : ByteArray := prog_8_method_10_code
def yX6_lockOf : MethodName := ⟨RX6, "lockOf", "(I)I"⟩
abbrev cX6_putLock : ByteArray := prog_8_method_11_code
def yX6_putLock : MethodName := ⟨RX6, "putLock", "(II)V"⟩
abbrev cX6_lockTotal : ByteArray := prog_8_method_12_code
def yX6_lockTotal : MethodName := ⟨RX6, "lockTotal", "()I"⟩
abbrev cX6_ruleCount : ByteArray := prog_8_method_13_code
def yX6_ruleCount : MethodName := ⟨RX6, "ruleCount", "()I"⟩
abbrev cX6_ruleAt : ByteArray := prog_8_method_14_code
def yX6_ruleAt : MethodName := ⟨RX6, "ruleAt", "(I)LVersionResolver$Rule;"⟩
abbrev cX6_appendRule : ByteArray := prog_8_method_15_code
def yX6_appendRule : MethodName := ⟨RX6, "appendRule", "(LVersionResolver$Rule;)V"⟩
abbrev cX6_removeRule : ByteArray := prog_8_method_16_code
def yX6_removeRule : MethodName := ⟨RX6, "removeRule", "(I)V"⟩
abbrev cX6_activeRules : ByteArray := prog_8_method_17_code
def yX6_activeRules : MethodName := ⟨RX6, "activeRules", "()I"⟩
abbrev cX6_valuesIn : ByteArray := prog_8_method_18_code
def yX6_valuesIn : MethodName := ⟨RX6, "valuesIn", "(ILVersionResolver$Range;)I"⟩
def RX7 : String := "VersionResolver"
def TX7 : u_T := fun k => match k with
  | 0 => ("VersionResolver", "outcome", "LVersionResolver$Outcome;", true)
  | 1 => ("VersionResolver", "now", "LVersionResolver$State;", true)
  | 2 => ("VersionResolver", "trialOutcome", "LVersionResolver$Outcome;", true)
  | 3 => ("VersionResolver", "trial", "LVersionResolver$State;", true)
  | 4 => ("VersionResolver", "history", "LVersionResolver$History;", true)
  | _ => ("VersionResolver", "text", "LVersionResolver$RuleText;", true)
def tyX7 : Nat → FieldType := fun k => match k with
  | 0 => .object "VersionResolver$Outcome"
  | 1 => .object "VersionResolver$State"
  | 2 => .object "VersionResolver$Outcome"
  | 3 => .object "VersionResolver$State"
  | 4 => .object "VersionResolver$History"
  | _ => .object "VersionResolver$RuleText"
theorem nmX7 : ∀ a, a < 6 → ∀ b, b < 6 → a ≠ b → (TX7 a).2.1 ≠ (TX7 b).2.1 := by decide +kernel
theorem tyX7_ok : ∀ k, k < 6 → parseFieldDescriptor (TX7 k).2.2.1 = some (tyX7 k) := by decide +kernel
abbrev cX7_init : ByteArray := prog_1_method_1_code
def yX7_init : MethodName := ⟨RX7, "<init>", "()V"⟩
abbrev cX7_publish : ByteArray := prog_1_method_2_code
def yX7_publish : MethodName := ⟨RX7, "publish", "(II)I"⟩
abbrev cX7_yank : ByteArray := prog_1_method_3_code
def yX7_yank : MethodName := ⟨RX7, "yank", "(II)I"⟩
abbrev cX7_version : ByteArray := prog_1_method_4_code
def yX7_version : MethodName := ⟨RX7, "version", "(II)I"⟩
abbrev cX7_setFeature : ByteArray := prog_1_method_5_code
def yX7_setFeature : MethodName := ⟨RX7, "setFeature", "(IZ)I"⟩
abbrev cX7_setLock : ByteArray := prog_1_method_6_code
def yX7_setLock : MethodName := ⟨RX7, "setLock", "(II)I"⟩
abbrev cX7_takeLock : ByteArray := prog_1_method_7_code
def yX7_takeLock : MethodName := ⟨RX7, "takeLock", "()I"⟩
abbrev cX7_locked : ByteArray := prog_1_method_8_code
def yX7_locked : MethodName := ⟨RX7, "locked", "(I)I"⟩
abbrev cX7_undo : ByteArray := prog_1_method_9_code
def yX7_undo : MethodName := ⟨RX7, "undo", "()I"⟩
abbrev cX7_type : ByteArray := prog_1_method_10_code
def yX7_type : MethodName := ⟨RX7, "type", "(I)I"⟩
abbrev cX7_clearText : ByteArray := prog_1_method_11_code
def yX7_clearText : MethodName := ⟨RX7, "clearText", "()I"⟩
abbrev cX7_fault : ByteArray := prog_1_method_12_code
def yX7_fault : MethodName := ⟨RX7, "fault", "(Z)I"⟩
abbrev cX7_contains : ByteArray := prog_1_method_13_code
def yX7_contains : MethodName := ⟨RX7, "contains", "(I)I"⟩
abbrev cX7_add : ByteArray := prog_1_method_14_code
def yX7_add : MethodName := ⟨RX7, "add", "()I"⟩
abbrev cX7_drop : ByteArray := prog_1_method_15_code
def yX7_drop : MethodName := ⟨RX7, "drop", "(I)I"⟩
abbrev cX7_rule : ByteArray := prog_1_method_16_code
def yX7_rule : MethodName := ⟨RX7, "rule", "(II)I"⟩
abbrev cX7_solve : ByteArray := prog_1_method_17_code
def yX7_solve : MethodName := ⟨RX7, "solve", "(I)I"⟩
abbrev cX7_chosen : ByteArray := prog_1_method_18_code
def yX7_chosen : MethodName := ⟨RX7, "chosen", "(I)I"⟩
abbrev cX7_solutions : ByteArray := prog_1_method_19_code
def yX7_solutions : MethodName := ⟨RX7, "solutions", "(I)I"⟩
abbrev cX7_possible : ByteArray := prog_1_method_20_code
def yX7_possible : MethodName := ⟨RX7, "possible", "(II)I"⟩
abbrev cX7_narrowed : ByteArray := prog_1_method_21_code
def yX7_narrowed : MethodName := ⟨RX7, "narrowed", "(II)I"⟩
abbrev cX7_why : ByteArray := prog_1_method_22_code
def yX7_why : MethodName := ⟨RX7, "why", "(II)I"⟩
abbrev cX7_refusal : ByteArray := prog_1_method_23_code
def yX7_refusal : MethodName := ⟨RX7, "refusal", "(I)I"⟩
abbrev cX7_wouldChange : ByteArray := prog_1_method_24_code
def yX7_wouldChange : MethodName := ⟨RX7, "wouldChange", "(II)I"⟩
abbrev cX7_count : ByteArray := prog_1_method_25_code
def yX7_count : MethodName := ⟨RX7, "count", "(I)I"⟩
abbrev cX7_digest : ByteArray := prog_1_method_26_code
def yX7_digest : MethodName := ⟨RX7, "digest", "()J"⟩
abbrev cX7_digestPack : ByteArray := prog_1_method_27_code
def yX7_digestPack : MethodName := ⟨RX7, "digestPack", "(JI)J"⟩
abbrev cX7_digestOutcome : ByteArray := prog_1_method_28_code
def yX7_digestOutcome : MethodName := ⟨RX7, "digestOutcome", "(J)J"⟩
abbrev cX7_beginChange : ByteArray := prog_1_method_29_code
def yX7_beginChange : MethodName := ⟨RX7, "beginChange", "()V"⟩
abbrev cX7_isPack : ByteArray := prog_1_method_30_code
def yX7_isPack : MethodName := ⟨RX7, "isPack", "(I)Z"⟩
abbrev cX7_isVersion : ByteArray := prog_1_method_31_code
def yX7_isVersion : MethodName := ⟨RX7, "isVersion", "(I)Z"⟩
abbrev cX7_memberAt : ByteArray := prog_1_method_32_code
def yX7_memberAt : MethodName := ⟨RX7, "memberAt", "(II)I"⟩
def RX8 : String := "VersionResolverModel"
def TX8 : u_T := fun k => match k with
  | 0 => ("VersionResolverModel", "m", "[I", true)
  | 1 => ("VersionResolverModel", "past", "[I", true)
  | 2 => ("VersionResolverModel", "undos", "I", false)
  | 3 => ("VersionResolverModel", "text", "[I", true)
  | 4 => ("VersionResolverModel", "textLength", "I", false)
  | 5 => ("VersionResolverModel", "read", "[I", true)
  | 6 => ("VersionResolverModel", "part", "[I", true)
  | 7 => ("VersionResolverModel", "at", "I", false)
  | 8 => ("VersionResolverModel", "fault", "I", false)
  | 9 => ("VersionResolverModel", "when", "[I", true)
  | 10 => ("VersionResolverModel", "then", "[I", true)
  | 11 => ("VersionResolverModel", "counts", "[Z", true)
  | 12 => ("VersionResolverModel", "allowed", "[I", true)
  | 13 => ("VersionResolverModel", "step", "[I", true)
  | 14 => ("VersionResolverModel", "option", "[I", true)
  | 15 => ("VersionResolverModel", "best", "[I", true)
  | 16 => ("VersionResolverModel", "bestChanges", "I", false)
  | 17 => ("VersionResolverModel", "bestPacks", "I", false)
  | 18 => ("VersionResolverModel", "far", "[I", true)
  | 19 => ("VersionResolverModel", "refused", "[I", true)
  | 20 => ("VersionResolverModel", "old", "[I", true)
  | _ => ("VersionResolverModel", "hash", "J", false)
def tyX8 : Nat → FieldType := fun k => match k with
  | 0 => .array .int
  | 1 => .array .int
  | 2 => .int
  | 3 => .array .int
  | 4 => .int
  | 5 => .array .int
  | 6 => .array .int
  | 7 => .int
  | 8 => .int
  | 9 => .array .int
  | 10 => .array .int
  | 11 => .array .boolean
  | 12 => .array .int
  | 13 => .array .int
  | 14 => .array .int
  | 15 => .array .int
  | 16 => .int
  | 17 => .int
  | 18 => .array .int
  | 19 => .array .int
  | 20 => .array .int
  | _ => .long
theorem nmX8 : ∀ a, a < 22 → ∀ b, b < 22 → a ≠ b → (TX8 a).2.1 ≠ (TX8 b).2.1 := by decide +kernel
theorem tyX8_ok : ∀ k, k < 22 → parseFieldDescriptor (TX8 k).2.2.1 = some (tyX8 k) := by decide +kernel
abbrev cX8_init : ByteArray := prog_10_method_1_code
def yX8_init : MethodName := ⟨RX8, "<init>", "()V"⟩
abbrev cX8_in : ByteArray := prog_10_method_2_code
def yX8_in : MethodName := ⟨RX8, "in", "(III)Z"⟩
abbrev cX8_isPack : ByteArray := prog_10_method_3_code
def yX8_isPack : MethodName := ⟨RX8, "isPack", "(I)Z"⟩
abbrev cX8_isVersion : ByteArray := prog_10_method_4_code
def yX8_isVersion : MethodName := ⟨RX8, "isVersion", "(I)Z"⟩
abbrev cX8_keeps : ByteArray := prog_10_method_5_code
def yX8_keeps : MethodName := ⟨RX8, "keeps", "()V"⟩
abbrev cX8_undo : ByteArray := prog_10_method_6_code
def yX8_undo : MethodName := ⟨RX8, "undo", "()I"⟩
abbrev cX8_indexOf : ByteArray := prog_10_method_7_code
def yX8_indexOf : MethodName := ⟨RX8, "indexOf", "(II)I"⟩
abbrev cX8_puts : ByteArray := prog_10_method_8_code
def yX8_puts : MethodName := ⟨RX8, "puts", "(II)V"⟩
abbrev cX8_takes : ByteArray := prog_10_method_9_code
def yX8_takes : MethodName := ⟨RX8, "takes", "(II)V"⟩
abbrev cX8_publish : ByteArray := prog_10_method_10_code
def yX8_publish : MethodName := ⟨RX8, "publish", "(II)I"⟩
abbrev cX8_yank : ByteArray := prog_10_method_11_code
def yX8_yank : MethodName := ⟨RX8, "yank", "(II)I"⟩
abbrev cX8_version : ByteArray := prog_10_method_12_code
def yX8_version : MethodName := ⟨RX8, "version", "(II)I"⟩
abbrev cX8_setFeature : ByteArray := prog_10_method_13_code
def yX8_setFeature : MethodName := ⟨RX8, "setFeature", "(IZ)I"⟩
abbrev cX8_setLock : ByteArray := prog_10_method_14_code
def yX8_setLock : MethodName := ⟨RX8, "setLock", "(II)I"⟩
abbrev cX8_locked : ByteArray := prog_10_method_15_code
def yX8_locked : MethodName := ⟨RX8, "locked", "(I)I"⟩
abbrev cX8_type : ByteArray := prog_10_method_16_code
def yX8_type : MethodName := ⟨RX8, "type", "(I)I"⟩
abbrev cX8_clearText : ByteArray := prog_10_method_17_code
def yX8_clearText : MethodName := ⟨RX8, "clearText", "()I"⟩
abbrev cX8_next : ByteArray := prog_10_method_18_code
def yX8_next : MethodName := ⟨RX8, "next", "()I"⟩
abbrev cX8_blanks : ByteArray := prog_10_method_19_code
def yX8_blanks : MethodName := ⟨RX8, "blanks", "()V"⟩
abbrev cX8_fails : ByteArray := prog_10_method_20_code
def yX8_fails : MethodName := ⟨RX8, "fails", "()V"⟩
abbrev cX8_isDigit : ByteArray := prog_10_method_21_code
def yX8_isDigit : MethodName := ⟨RX8, "isDigit", "()Z"⟩
abbrev cX8_isBound : ByteArray := prog_10_method_22_code
def yX8_isBound : MethodName := ⟨RX8, "isBound", "()Z"⟩
abbrev cX8_narrows : ByteArray := prog_10_method_23_code
def yX8_narrows : MethodName := ⟨RX8, "narrows", "(II)V"⟩
abbrev cX8_bound : ByteArray := prog_10_method_24_code
def yX8_bound : MethodName := ⟨RX8, "bound", "()V"⟩
abbrev cX8_versions : ByteArray := prog_10_method_25_code
def yX8_versions : MethodName := ⟨RX8, "versions", "(IZ)V"⟩
abbrev cX8_range : ByteArray := prog_10_method_26_code
def yX8_range : MethodName := ⟨RX8, "range", "(I)V"⟩
abbrev cX8_pack : ByteArray := prog_10_method_27_code
def yX8_pack : MethodName := ⟨RX8, "pack", "()I"⟩
abbrev cX8_takesSign : ByteArray := prog_10_method_28_code
def yX8_takesSign : MethodName := ⟨RX8, "takesSign", "(I)V"⟩
abbrev cX8_feature : ByteArray := prog_10_method_29_code
def yX8_feature : MethodName := ⟨RX8, "feature", "()V"⟩
abbrev cX8_reads : ByteArray := prog_10_method_30_code
def yX8_reads : MethodName := ⟨RX8, "reads", "(Z)V"⟩
abbrev cX8_fault : ByteArray := prog_10_method_31_code
def yX8_fault : MethodName := ⟨RX8, "fault", "(Z)I"⟩
abbrev cX8_contains : ByteArray := prog_10_method_32_code
def yX8_contains : MethodName := ⟨RX8, "contains", "(I)I"⟩
abbrev cX8_add : ByteArray := prog_10_method_33_code
def yX8_add : MethodName := ⟨RX8, "add", "()I"⟩
abbrev cX8_drop : ByteArray := prog_10_method_34_code
def yX8_drop : MethodName := ⟨RX8, "drop", "(I)I"⟩
abbrev cX8_of : ByteArray := prog_10_method_35_code
def yX8_of : MethodName := ⟨RX8, "of", "(II)I"⟩
abbrev cX8_isActive : ByteArray := prog_10_method_36_code
def yX8_isActive : MethodName := ⟨RX8, "isActive", "(I)Z"⟩
abbrev cX8_within : ByteArray := prog_10_method_37_code
def yX8_within : MethodName := ⟨RX8, "within", "(III)I"⟩
abbrev cX8_many : ByteArray := prog_10_method_38_code
def yX8_many : MethodName := ⟨RX8, "many", "(I)I"⟩
abbrev cX8_rule : ByteArray := prog_10_method_39_code
def yX8_rule : MethodName := ⟨RX8, "rule", "(II)I"⟩
abbrev cX8_options : ByteArray := prog_10_method_40_code
def yX8_options : MethodName := ⟨RX8, "options", "(I)I"⟩
abbrev cX8_prepares : ByteArray := prog_10_method_41_code
def yX8_prepares : MethodName := ⟨RX8, "prepares", "()V"⟩
abbrev cX8_applies : ByteArray := prog_10_method_42_code
def yX8_applies : MethodName := ⟨RX8, "applies", "(I[I)Z"⟩
abbrev cX8_fits : ByteArray := prog_10_method_43_code
def yX8_fits : MethodName := ⟨RX8, "fits", "(I)Z"⟩
abbrev cX8_versionOf : ByteArray := prog_10_method_44_code
def yX8_versionOf : MethodName := ⟨RX8, "versionOf", "(II)I"⟩
abbrev cX8_changes : ByteArray := prog_10_method_45_code
def yX8_changes : MethodName := ⟨RX8, "changes", "(I)I"⟩
abbrev cX8_present : ByteArray := prog_10_method_46_code
def yX8_present : MethodName := ⟨RX8, "present", "(I)I"⟩
abbrev cX8_canBeBetter : ByteArray := prog_10_method_47_code
def yX8_canBeBetter : MethodName := ⟨RX8, "canBeBetter", "(I)Z"⟩
abbrev cX8_finds : ByteArray := prog_10_method_48_code
def yX8_finds : MethodName := ⟨RX8, "finds", "(IZ)I"⟩
abbrev cX8_notes : ByteArray := prog_10_method_49_code
def yX8_notes : MethodName := ⟨RX8, "notes", "()V"⟩
abbrev cX8_solves : ByteArray := prog_10_method_50_code
def yX8_solves : MethodName := ⟨RX8, "solves", "()Z"⟩
abbrev cX8_solve : ByteArray := prog_10_method_51_code
def yX8_solve : MethodName := ⟨RX8, "solve", "(I)I"⟩
abbrev cX8_chosen : ByteArray := prog_10_method_52_code
def yX8_chosen : MethodName := ⟨RX8, "chosen", "(I)I"⟩
abbrev cX8_takeLock : ByteArray := prog_10_method_53_code
def yX8_takeLock : MethodName := ⟨RX8, "takeLock", "()I"⟩
abbrev cX8_solutions : ByteArray := prog_10_method_54_code
def yX8_solutions : MethodName := ⟨RX8, "solutions", "(I)I"⟩
abbrev cX8_possible : ByteArray := prog_10_method_55_code
def yX8_possible : MethodName := ⟨RX8, "possible", "(II)I"⟩
abbrev cX8_narrowed : ByteArray := prog_10_method_56_code
def yX8_narrowed : MethodName := ⟨RX8, "narrowed", "(II)I"⟩
abbrev cX8_narrowsBy : ByteArray := prog_10_method_57_code
def yX8_narrowsBy : MethodName := ⟨RX8, "narrowsBy", "(I)Z"⟩
abbrev cX8_requires : ByteArray := prog_10_method_58_code
def yX8_requires : MethodName := ⟨RX8, "requires", "(I)Z"⟩
abbrev cX8_leads : ByteArray := prog_10_method_59_code
def yX8_leads : MethodName := ⟨RX8, "leads", "(I)V"⟩
abbrev cX8_first : ByteArray := prog_10_method_60_code
def yX8_first : MethodName := ⟨RX8, "first", "(II)I"⟩
abbrev cX8_why : ByteArray := prog_10_method_61_code
def yX8_why : MethodName := ⟨RX8, "why", "(II)I"⟩
abbrev cX8_refusal : ByteArray := prog_10_method_62_code
def yX8_refusal : MethodName := ⟨RX8, "refusal", "(I)I"⟩
abbrev cX8_refuses : ByteArray := prog_10_method_63_code
def yX8_refuses : MethodName := ⟨RX8, "refuses", "()I"⟩
abbrev cX8_wouldChange : ByteArray := prog_10_method_64_code
def yX8_wouldChange : MethodName := ⟨RX8, "wouldChange", "(II)I"⟩
abbrev cX8_actives : ByteArray := prog_10_method_65_code
def yX8_actives : MethodName := ⟨RX8, "actives", "()I"⟩
abbrev cX8_count : ByteArray := prog_10_method_66_code
def yX8_count : MethodName := ⟨RX8, "count", "(I)I"⟩
abbrev cX8_mixes : ByteArray := prog_10_method_67_code
def yX8_mixes : MethodName := ⟨RX8, "mixes", "(I)V"⟩
abbrev cX8_digest : ByteArray := prog_10_method_68_code
def yX8_digest : MethodName := ⟨RX8, "digest", "()J"⟩
def RJ6 : String := "java/lang/Integer"
abbrev cJ6_numberOfTrailingZeros_0f7a4 : ByteArray := prog_11_method_48_code
def yJ6_numberOfTrailingZeros_0f7a4 : MethodName := ⟨RJ6, "numberOfTrailingZeros", "(I)I"⟩
abbrev cJ6_bitCount_0f7a4 : ByteArray := prog_11_method_49_code
def yJ6_bitCount_0f7a4 : MethodName := ⟨RJ6, "bitCount", "(I)I"⟩
def RJ13 : String := "java/lang/Long"
abbrev cJ13_bitCount_95d88 : ByteArray := prog_12_method_50_code
def yJ13_bitCount_95d88 : MethodName := ⟨RJ13, "bitCount", "(J)I"⟩
def RJ9 : String := "java/lang/Math"
abbrev cJ9_max_7cf53 : ByteArray := prog_13_method_65_code
def yJ9_max_7cf53 : MethodName := ⟨RJ9, "max", "(II)I"⟩
abbrev cJ9_min_7cf53 : ByteArray := prog_13_method_69_code
def yJ9_min_7cf53 : MethodName := ⟨RJ9, "min", "(II)I"⟩
def RJ10 : String := "java/lang/System"
def RL : String := "VersionResolverLaw"
abbrev cL_law : ByteArray := code
def yL_law : MethodName := ⟨RL, "law", "([I)Z"⟩
abbrev vwCl : List vw_C := [(RX0, TX0, 3), (RX1, TX1, 15), (RX2, TX2, 11), (RX3, TX3, 3), (RX4, TX4, 6), (RX5, TX5, 14), (RX6, TX6, 6), (RX7, TX7, 6), (RX8, TX8, 22)]
