section
-- ===== PART A: goes FIRST, ahead of the names: the tables' words, and 'selects' of the private methods out of them =====
/-- a private method of a class that the tables say can be made, by its rows of tables_1 -/
def lw_okq (q : MethodName × Nat) : Prop := (q.1.cls ≠ "java/lang/invoke/MethodHandle" ∧ q.1.cls ≠ "java/lang/invoke/VarHandle") ∧ Cond.instantiable q.1.cls q.2 ∈ tables_1 ∧ Cond.privateMethod q.1 ∈ tables_1 ∧ Cond.instanceMethod q.1 ∈ tables_1
theorem lw_p0 : lw_okq (⟨"BaizeCorps", "tryText", "()I"⟩, 8) := ⟨⟨by decide +kernel, by decide +kernel⟩, List.mem_of_getElem? (i := 16) (by decide +kernel), List.mem_of_getElem? (i := 340) (by decide +kernel), List.mem_of_getElem? (i := 341) (by decide +kernel)⟩
theorem lw_p1 : lw_okq (⟨"BaizeCorps$Trial", "begin", "(LBaizeCorps$Table;)V"⟩, 8) := ⟨⟨by decide +kernel, by decide +kernel⟩, List.mem_of_getElem? (i := 87) (by decide +kernel), List.mem_of_getElem? (i := 348) (by decide +kernel), List.mem_of_getElem? (i := 349) (by decide +kernel)⟩
theorem lw_p2 : lw_okq (⟨"BaizeCorps$Trial", "tryAct", "(IIII)I"⟩, 8) := ⟨⟨by decide +kernel, by decide +kernel⟩, List.mem_of_getElem? (i := 87) (by decide +kernel), List.mem_of_getElem? (i := 365) (by decide +kernel), List.mem_of_getElem? (i := 366) (by decide +kernel)⟩
theorem lw_p3 : lw_okq (⟨"BaizeCorps$Trial", "play", "(III)V"⟩, 8) := ⟨⟨by decide +kernel, by decide +kernel⟩, List.mem_of_getElem? (i := 87) (by decide +kernel), List.mem_of_getElem? (i := 374) (by decide +kernel), List.mem_of_getElem? (i := 375) (by decide +kernel)⟩
theorem lw_p4 : lw_okq (⟨"BaizeCorps$Stroke", "begin", "(I)V"⟩, 7) := ⟨⟨by decide +kernel, by decide +kernel⟩, List.mem_of_getElem? (i := 95) (by decide +kernel), List.mem_of_getElem? (i := 382) (by decide +kernel), List.mem_of_getElem? (i := 383) (by decide +kernel)⟩
theorem lw_p5 : lw_okq (⟨"BaizeCorps$Stroke", "touch", "(II)V"⟩, 7) := ⟨⟨by decide +kernel, by decide +kernel⟩, List.mem_of_getElem? (i := 95) (by decide +kernel), List.mem_of_getElem? (i := 397) (by decide +kernel), List.mem_of_getElem? (i := 398) (by decide +kernel)⟩
theorem lw_p6 : lw_okq (⟨"BaizeCorps$Table", "driftOne", "(I)V"⟩, 4) := ⟨⟨by decide +kernel, by decide +kernel⟩, List.mem_of_getElem? (i := 24) (by decide +kernel), List.mem_of_getElem? (i := 415) (by decide +kernel), List.mem_of_getElem? (i := 416) (by decide +kernel)⟩
theorem lw_p7 : lw_okq (⟨"BaizeCorps$Whence", "countLeft", "(LBaizeCorps$Track;)V"⟩, 5) := ⟨⟨by decide +kernel, by decide +kernel⟩, List.mem_of_getElem? (i := 178) (by decide +kernel), List.mem_of_getElem? (i := 533) (by decide +kernel), List.mem_of_getElem? (i := 534) (by decide +kernel)⟩
theorem lw_p8 : lw_okq (⟨"BaizeCorps$Whence", "mostLeftAt", "(I)I"⟩, 5) := ⟨⟨by decide +kernel, by decide +kernel⟩, List.mem_of_getElem? (i := 178) (by decide +kernel), List.mem_of_getElem? (i := 538) (by decide +kernel), List.mem_of_getElem? (i := 539) (by decide +kernel)⟩
theorem lw_p9 : lw_okq (⟨"BaizeCorps$Heaps", "learn", "()V"⟩, 2) := ⟨⟨by decide +kernel, by decide +kernel⟩, List.mem_of_getElem? (i := 204) (by decide +kernel), List.mem_of_getElem? (i := 553) (by decide +kernel), List.mem_of_getElem? (i := 554) (by decide +kernel)⟩
theorem lw_p10 : lw_okq (⟨"BaizeCorps$Heaps", "winsAtOnce", "(II)Z"⟩, 2) := ⟨⟨by decide +kernel, by decide +kernel⟩, List.mem_of_getElem? (i := 204) (by decide +kernel), List.mem_of_getElem? (i := 557) (by decide +kernel), List.mem_of_getElem? (i := 558) (by decide +kernel)⟩
theorem lw_p11 : lw_okq (⟨"BaizeCorps$Heaps", "isLost", "(IZ)Z"⟩, 2) := ⟨⟨by decide +kernel, by decide +kernel⟩, List.mem_of_getElem? (i := 204) (by decide +kernel), List.mem_of_getElem? (i := 561) (by decide +kernel), List.mem_of_getElem? (i := 562) (by decide +kernel)⟩
theorem lw_p12 : lw_okq (⟨"BaizeCorpsModel", "ballOn", "(I)I"⟩, 42) := ⟨⟨by decide +kernel, by decide +kernel⟩, List.mem_of_getElem? (i := 620) (by decide +kernel), List.mem_of_getElem? (i := 779) (by decide +kernel), List.mem_of_getElem? (i := 780) (by decide +kernel)⟩
theorem lw_p13 : lw_okq (⟨"BaizeCorpsModel", "readOn", "(II)I"⟩, 42) := ⟨⟨by decide +kernel, by decide +kernel⟩, List.mem_of_getElem? (i := 620) (by decide +kernel), List.mem_of_getElem? (i := 802) (by decide +kernel), List.mem_of_getElem? (i := 803) (by decide +kernel)⟩
theorem lw_p14 : lw_okq (⟨"BaizeCorpsModel", "begin", "(I)I"⟩, 42) := ⟨⟨by decide +kernel, by decide +kernel⟩, List.mem_of_getElem? (i := 620) (by decide +kernel), List.mem_of_getElem? (i := 806) (by decide +kernel), List.mem_of_getElem? (i := 807) (by decide +kernel)⟩
theorem lw_p15 : lw_okq (⟨"BaizeCorpsModel", "close", "(I)I"⟩, 42) := ⟨⟨by decide +kernel, by decide +kernel⟩, List.mem_of_getElem? (i := 620) (by decide +kernel), List.mem_of_getElem? (i := 812) (by decide +kernel), List.mem_of_getElem? (i := 813) (by decide +kernel)⟩
def lw_privs_1 : List (MethodName × Nat) := [(⟨"BaizeCorps", "tryText", "()I"⟩, 8), (⟨"BaizeCorps$Trial", "begin", "(LBaizeCorps$Table;)V"⟩, 8), (⟨"BaizeCorps$Trial", "tryAct", "(IIII)I"⟩, 8), (⟨"BaizeCorps$Trial", "play", "(III)V"⟩, 8), (⟨"BaizeCorps$Stroke", "begin", "(I)V"⟩, 7), (⟨"BaizeCorps$Stroke", "touch", "(II)V"⟩, 7), (⟨"BaizeCorps$Table", "driftOne", "(I)V"⟩, 4), (⟨"BaizeCorps$Whence", "countLeft", "(LBaizeCorps$Track;)V"⟩, 5), (⟨"BaizeCorps$Whence", "mostLeftAt", "(I)I"⟩, 5), (⟨"BaizeCorps$Heaps", "learn", "()V"⟩, 2), (⟨"BaizeCorps$Heaps", "winsAtOnce", "(II)Z"⟩, 2), (⟨"BaizeCorps$Heaps", "isLost", "(IZ)Z"⟩, 2), (⟨"BaizeCorpsModel", "ballOn", "(I)I"⟩, 42), (⟨"BaizeCorpsModel", "readOn", "(II)I"⟩, 42), (⟨"BaizeCorpsModel", "begin", "(I)I"⟩, 42), (⟨"BaizeCorpsModel", "close", "(I)I"⟩, 42)]
theorem lw_r1 : ∀ q ∈ lw_privs_1, lw_okq q := List.forall_mem_cons.mpr ⟨lw_p0, List.forall_mem_cons.mpr ⟨lw_p1, List.forall_mem_cons.mpr ⟨lw_p2, List.forall_mem_cons.mpr ⟨lw_p3, List.forall_mem_cons.mpr ⟨lw_p4, List.forall_mem_cons.mpr ⟨lw_p5, List.forall_mem_cons.mpr ⟨lw_p6, List.forall_mem_cons.mpr ⟨lw_p7, List.forall_mem_cons.mpr ⟨lw_p8, List.forall_mem_cons.mpr ⟨lw_p9, List.forall_mem_cons.mpr ⟨lw_p10, List.forall_mem_cons.mpr ⟨lw_p11, List.forall_mem_cons.mpr ⟨lw_p12, List.forall_mem_cons.mpr ⟨lw_p13, List.forall_mem_cons.mpr ⟨lw_p14, List.forall_mem_cons.mpr ⟨lw_p15, fun _ h => absurd h List.not_mem_nil⟩⟩⟩⟩⟩⟩⟩⟩⟩⟩⟩⟩⟩⟩⟩⟩
theorem lw_p16 : lw_okq (⟨"BaizeCorpsModel", "deed", "(I)I"⟩, 42) := ⟨⟨by decide +kernel, by decide +kernel⟩, List.mem_of_getElem? (i := 620) (by decide +kernel), List.mem_of_getElem? (i := 816) (by decide +kernel), List.mem_of_getElem? (i := 817) (by decide +kernel)⟩
theorem lw_p17 : lw_okq (⟨"BaizeCorpsModel", "force", "(I)I"⟩, 42) := ⟨⟨by decide +kernel, by decide +kernel⟩, List.mem_of_getElem? (i := 620) (by decide +kernel), List.mem_of_getElem? (i := 822) (by decide +kernel), List.mem_of_getElem? (i := 823) (by decide +kernel)⟩
theorem lw_p18 : lw_okq (⟨"BaizeCorpsModel", "refusal", "()I"⟩, 42) := ⟨⟨by decide +kernel, by decide +kernel⟩, List.mem_of_getElem? (i := 620) (by decide +kernel), List.mem_of_getElem? (i := 832) (by decide +kernel), List.mem_of_getElem? (i := 833) (by decide +kernel)⟩
theorem lw_p19 : lw_okq (⟨"BaizeCorpsModel", "keepNow", "()V"⟩, 42) := ⟨⟨by decide +kernel, by decide +kernel⟩, List.mem_of_getElem? (i := 620) (by decide +kernel), List.mem_of_getElem? (i := 836) (by decide +kernel), List.mem_of_getElem? (i := 837) (by decide +kernel)⟩
theorem lw_p20 : lw_okq (⟨"BaizeCorpsModel", "goCrises", "()V"⟩, 42) := ⟨⟨by decide +kernel, by decide +kernel⟩, List.mem_of_getElem? (i := 620) (by decide +kernel), List.mem_of_getElem? (i := 841) (by decide +kernel), List.mem_of_getElem? (i := 842) (by decide +kernel)⟩
theorem lw_p21 : lw_okq (⟨"BaizeCorpsModel", "whyNot", "(II)I"⟩, 42) := ⟨⟨by decide +kernel, by decide +kernel⟩, List.mem_of_getElem? (i := 620) (by decide +kernel), List.mem_of_getElem? (i := 845) (by decide +kernel), List.mem_of_getElem? (i := 846) (by decide +kernel)⟩
theorem lw_p22 : lw_okq (⟨"BaizeCorpsModel", "happen", "(IIII)V"⟩, 42) := ⟨⟨by decide +kernel, by decide +kernel⟩, List.mem_of_getElem? (i := 620) (by decide +kernel), List.mem_of_getElem? (i := 849) (by decide +kernel), List.mem_of_getElem? (i := 850) (by decide +kernel)⟩
theorem lw_p23 : lw_okq (⟨"BaizeCorpsModel", "stroke", "(III)V"⟩, 42) := ⟨⟨by decide +kernel, by decide +kernel⟩, List.mem_of_getElem? (i := 620) (by decide +kernel), List.mem_of_getElem? (i := 853) (by decide +kernel), List.mem_of_getElem? (i := 854) (by decide +kernel)⟩
theorem lw_p24 : lw_okq (⟨"BaizeCorpsModel", "send", "(III)V"⟩, 42) := ⟨⟨by decide +kernel, by decide +kernel⟩, List.mem_of_getElem? (i := 620) (by decide +kernel), List.mem_of_getElem? (i := 857) (by decide +kernel), List.mem_of_getElem? (i := 858) (by decide +kernel)⟩
theorem lw_p25 : lw_okq (⟨"BaizeCorpsModel", "step", "(I)V"⟩, 42) := ⟨⟨by decide +kernel, by decide +kernel⟩, List.mem_of_getElem? (i := 620) (by decide +kernel), List.mem_of_getElem? (i := 861) (by decide +kernel), List.mem_of_getElem? (i := 862) (by decide +kernel)⟩
theorem lw_p26 : lw_okq (⟨"BaizeCorpsModel", "touch", "(II)V"⟩, 42) := ⟨⟨by decide +kernel, by decide +kernel⟩, List.mem_of_getElem? (i := 620) (by decide +kernel), List.mem_of_getElem? (i := 879) (by decide +kernel), List.mem_of_getElem? (i := 880) (by decide +kernel)⟩
theorem lw_p27 : lw_okq (⟨"BaizeCorpsModel", "nap", "()V"⟩, 42) := ⟨⟨by decide +kernel, by decide +kernel⟩, List.mem_of_getElem? (i := 620) (by decide +kernel), List.mem_of_getElem? (i := 883) (by decide +kernel), List.mem_of_getElem? (i := 884) (by decide +kernel)⟩
theorem lw_p28 : lw_okq (⟨"BaizeCorpsModel", "drift", "(I)V"⟩, 42) := ⟨⟨by decide +kernel, by decide +kernel⟩, List.mem_of_getElem? (i := 620) (by decide +kernel), List.mem_of_getElem? (i := 890) (by decide +kernel), List.mem_of_getElem? (i := 891) (by decide +kernel)⟩
theorem lw_p29 : lw_okq (⟨"BaizeCorpsModel", "back", "(I)I"⟩, 42) := ⟨⟨by decide +kernel, by decide +kernel⟩, List.mem_of_getElem? (i := 620) (by decide +kernel), List.mem_of_getElem? (i := 894) (by decide +kernel), List.mem_of_getElem? (i := 895) (by decide +kernel)⟩
theorem lw_p30 : lw_okq (⟨"BaizeCorpsModel", "downMany", "()I"⟩, 42) := ⟨⟨by decide +kernel, by decide +kernel⟩, List.mem_of_getElem? (i := 620) (by decide +kernel), List.mem_of_getElem? (i := 907) (by decide +kernel), List.mem_of_getElem? (i := 908) (by decide +kernel)⟩
theorem lw_p31 : lw_okq (⟨"BaizeCorpsModel", "stepsBy", "(IIII)I"⟩, 42) := ⟨⟨by decide +kernel, by decide +kernel⟩, List.mem_of_getElem? (i := 620) (by decide +kernel), List.mem_of_getElem? (i := 923) (by decide +kernel), List.mem_of_getElem? (i := 924) (by decide +kernel)⟩
def lw_privs_2 : List (MethodName × Nat) := [(⟨"BaizeCorpsModel", "deed", "(I)I"⟩, 42), (⟨"BaizeCorpsModel", "force", "(I)I"⟩, 42), (⟨"BaizeCorpsModel", "refusal", "()I"⟩, 42), (⟨"BaizeCorpsModel", "keepNow", "()V"⟩, 42), (⟨"BaizeCorpsModel", "goCrises", "()V"⟩, 42), (⟨"BaizeCorpsModel", "whyNot", "(II)I"⟩, 42), (⟨"BaizeCorpsModel", "happen", "(IIII)V"⟩, 42), (⟨"BaizeCorpsModel", "stroke", "(III)V"⟩, 42), (⟨"BaizeCorpsModel", "send", "(III)V"⟩, 42), (⟨"BaizeCorpsModel", "step", "(I)V"⟩, 42), (⟨"BaizeCorpsModel", "touch", "(II)V"⟩, 42), (⟨"BaizeCorpsModel", "nap", "()V"⟩, 42), (⟨"BaizeCorpsModel", "drift", "(I)V"⟩, 42), (⟨"BaizeCorpsModel", "back", "(I)I"⟩, 42), (⟨"BaizeCorpsModel", "downMany", "()I"⟩, 42), (⟨"BaizeCorpsModel", "stepsBy", "(IIII)I"⟩, 42)]
theorem lw_r2 : ∀ q ∈ lw_privs_2, lw_okq q := List.forall_mem_cons.mpr ⟨lw_p16, List.forall_mem_cons.mpr ⟨lw_p17, List.forall_mem_cons.mpr ⟨lw_p18, List.forall_mem_cons.mpr ⟨lw_p19, List.forall_mem_cons.mpr ⟨lw_p20, List.forall_mem_cons.mpr ⟨lw_p21, List.forall_mem_cons.mpr ⟨lw_p22, List.forall_mem_cons.mpr ⟨lw_p23, List.forall_mem_cons.mpr ⟨lw_p24, List.forall_mem_cons.mpr ⟨lw_p25, List.forall_mem_cons.mpr ⟨lw_p26, List.forall_mem_cons.mpr ⟨lw_p27, List.forall_mem_cons.mpr ⟨lw_p28, List.forall_mem_cons.mpr ⟨lw_p29, List.forall_mem_cons.mpr ⟨lw_p30, List.forall_mem_cons.mpr ⟨lw_p31, fun _ h => absurd h List.not_mem_nil⟩⟩⟩⟩⟩⟩⟩⟩⟩⟩⟩⟩⟩⟩⟩⟩
theorem lw_p32 : lw_okq (⟨"BaizeCorpsModel", "metMany", "(I)I"⟩, 42) := ⟨⟨by decide +kernel, by decide +kernel⟩, List.mem_of_getElem? (i := 620) (by decide +kernel), List.mem_of_getElem? (i := 942) (by decide +kernel), List.mem_of_getElem? (i := 943) (by decide +kernel)⟩
theorem lw_p33 : lw_okq (⟨"BaizeCorpsModel", "findFar", "(I)Z"⟩, 42) := ⟨⟨by decide +kernel, by decide +kernel⟩, List.mem_of_getElem? (i := 620) (by decide +kernel), List.mem_of_getElem? (i := 950) (by decide +kernel), List.mem_of_getElem? (i := 951) (by decide +kernel)⟩
theorem lw_p34 : lw_okq (⟨"BaizeCorpsModel", "wayTo", "(II)I"⟩, 42) := ⟨⟨by decide +kernel, by decide +kernel⟩, List.mem_of_getElem? (i := 620) (by decide +kernel), List.mem_of_getElem? (i := 954) (by decide +kernel), List.mem_of_getElem? (i := 955) (by decide +kernel)⟩
theorem lw_p35 : lw_okq (⟨"BaizeCorpsModel", "leadsTo", "(III)Z"⟩, 42) := ⟨⟨by decide +kernel, by decide +kernel⟩, List.mem_of_getElem? (i := 620) (by decide +kernel), List.mem_of_getElem? (i := 958) (by decide +kernel), List.mem_of_getElem? (i := 959) (by decide +kernel)⟩
theorem lw_p36 : lw_okq (⟨"BaizeCorpsModel", "findFits", "()V"⟩, 42) := ⟨⟨by decide +kernel, by decide +kernel⟩, List.mem_of_getElem? (i := 620) (by decide +kernel), List.mem_of_getElem? (i := 975) (by decide +kernel), List.mem_of_getElem? (i := 976) (by decide +kernel)⟩
theorem lw_p37 : lw_okq (⟨"BaizeCorpsModel", "isFit", "(I)Z"⟩, 42) := ⟨⟨by decide +kernel, by decide +kernel⟩, List.mem_of_getElem? (i := 620) (by decide +kernel), List.mem_of_getElem? (i := 979) (by decide +kernel), List.mem_of_getElem? (i := 980) (by decide +kernel)⟩
theorem lw_p38 : lw_okq (⟨"BaizeCorpsModel", "mostNow", "()I"⟩, 42) := ⟨⟨by decide +kernel, by decide +kernel⟩, List.mem_of_getElem? (i := 620) (by decide +kernel), List.mem_of_getElem? (i := 987) (by decide +kernel), List.mem_of_getElem? (i := 988) (by decide +kernel)⟩
theorem lw_p39 : lw_okq (⟨"BaizeCorpsModel", "leastTake", "(II)I"⟩, 42) := ⟨⟨by decide +kernel, by decide +kernel⟩, List.mem_of_getElem? (i := 620) (by decide +kernel), List.mem_of_getElem? (i := 996) (by decide +kernel), List.mem_of_getElem? (i := 997) (by decide +kernel)⟩
theorem lw_p40 : lw_okq (⟨"BaizeCorpsModel", "findChance", "(IIII)V"⟩, 42) := ⟨⟨by decide +kernel, by decide +kernel⟩, List.mem_of_getElem? (i := 620) (by decide +kernel), List.mem_of_getElem? (i := 1012) (by decide +kernel), List.mem_of_getElem? (i := 1013) (by decide +kernel)⟩
theorem lw_p41 : lw_okq (⟨"BaizeCorpsModel", "passAll", "()V"⟩, 42) := ⟨⟨by decide +kernel, by decide +kernel⟩, List.mem_of_getElem? (i := 620) (by decide +kernel), List.mem_of_getElem? (i := 1037) (by decide +kernel), List.mem_of_getElem? (i := 1038) (by decide +kernel)⟩
theorem lw_p42 : lw_okq (⟨"BaizeCorpsModel", "pass", "(I)I"⟩, 42) := ⟨⟨by decide +kernel, by decide +kernel⟩, List.mem_of_getElem? (i := 620) (by decide +kernel), List.mem_of_getElem? (i := 1041) (by decide +kernel), List.mem_of_getElem? (i := 1042) (by decide +kernel)⟩
theorem lw_p43 : lw_okq (⟨"BaizeCorpsModel", "passRow", "([II)V"⟩, 42) := ⟨⟨by decide +kernel, by decide +kernel⟩, List.mem_of_getElem? (i := 620) (by decide +kernel), List.mem_of_getElem? (i := 1045) (by decide +kernel), List.mem_of_getElem? (i := 1046) (by decide +kernel)⟩
def lw_privs_3 : List (MethodName × Nat) := [(⟨"BaizeCorpsModel", "metMany", "(I)I"⟩, 42), (⟨"BaizeCorpsModel", "findFar", "(I)Z"⟩, 42), (⟨"BaizeCorpsModel", "wayTo", "(II)I"⟩, 42), (⟨"BaizeCorpsModel", "leadsTo", "(III)Z"⟩, 42), (⟨"BaizeCorpsModel", "findFits", "()V"⟩, 42), (⟨"BaizeCorpsModel", "isFit", "(I)Z"⟩, 42), (⟨"BaizeCorpsModel", "mostNow", "()I"⟩, 42), (⟨"BaizeCorpsModel", "leastTake", "(II)I"⟩, 42), (⟨"BaizeCorpsModel", "findChance", "(IIII)V"⟩, 42), (⟨"BaizeCorpsModel", "passAll", "()V"⟩, 42), (⟨"BaizeCorpsModel", "pass", "(I)I"⟩, 42), (⟨"BaizeCorpsModel", "passRow", "([II)V"⟩, 42)]
theorem lw_r3 : ∀ q ∈ lw_privs_3, lw_okq q := List.forall_mem_cons.mpr ⟨lw_p32, List.forall_mem_cons.mpr ⟨lw_p33, List.forall_mem_cons.mpr ⟨lw_p34, List.forall_mem_cons.mpr ⟨lw_p35, List.forall_mem_cons.mpr ⟨lw_p36, List.forall_mem_cons.mpr ⟨lw_p37, List.forall_mem_cons.mpr ⟨lw_p38, List.forall_mem_cons.mpr ⟨lw_p39, List.forall_mem_cons.mpr ⟨lw_p40, List.forall_mem_cons.mpr ⟨lw_p41, List.forall_mem_cons.mpr ⟨lw_p42, List.forall_mem_cons.mpr ⟨lw_p43, fun _ h => absurd h List.not_mem_nil⟩⟩⟩⟩⟩⟩⟩⟩⟩⟩⟩⟩
def lw_privs : List (MethodName × Nat) := lw_privs_1 ++ (lw_privs_2 ++ (lw_privs_3))
def lw_tbl : List Cond := k2_sels lw_privs ++ tables_1
theorem lw_privs_ok : ∀ q ∈ lw_privs, lw_okq q := by
  show ∀ q ∈ lw_privs_1 ++ (lw_privs_2 ++ (lw_privs_3)), lw_okq q
  exact List.forall_mem_append.mpr ⟨lw_r1, List.forall_mem_append.mpr ⟨lw_r2, lw_r3⟩⟩
-- ===== end of PART A; then your names; then what follows =====
/-! ===== BEGIN words of one list among another's, by their places ===== -/
theorem goodIn_r {big : List Cond} (ws : List Cond) (ps : List Nat) (hp : ws = ps.filterMap (fun i => big[i]?)) (h : ws.all goodWord = true) : GoodIn big ws := by
  intro w hw
  have h1 := List.all_eq_true.mp h w hw
  rw [hp] at hw
  obtain ⟨i, -, hi⟩ := List.mem_filterMap.mp hw
  have hm : w ∈ big := by first | exact List.mem_of_getElem? hi | exact List.getElem?_mem hi
  exact ⟨hm, good_of_word h1⟩
theorem goodIn_app {big a b : List Cond} (ha : GoodIn big a) (hb : GoodIn big b) : GoodIn big (a ++ b) := fun w h => (List.mem_append.mp h).elim (ha w) (hb w)
theorem goodIn_ca {big a b : List Cond} {c : Cond} (ha : GoodIn big (c :: a)) (hb : GoodIn big b) : GoodIn big (c :: (a ++ b)) := fun w h => (List.mem_cons.mp h).elim (fun e => ha w (List.mem_cons.mpr (Or.inl e))) (fun h => (List.mem_append.mp h).elim (fun h => ha w (List.mem_cons.mpr (Or.inr h))) (hb w))
theorem goodIn_sub {big ws : List Cond} (hm : ∀ w ∈ ws, w ∈ big) (h : ws.all goodWord = true) : GoodIn big ws := fun w hw => ⟨hm w hw, good_of_word (List.all_eq_true.mp h w hw)⟩
/-! ===== END ===== -/
def RX0 : String := "BaizeCorps$Heaps"
def TX0 : u_T := fun k => match k with
  | 0 => ("BaizeCorps$Heaps", "lostThird", "[I", true)
  | _ => ("BaizeCorps$Heaps", "known", "Z", false)
def tyX0 : Nat → FieldType := fun k => match k with
  | 0 => .array .int
  | _ => .boolean
abbrev wsX00 : List Cond := u_ws RX0 TX0 2
theorem nmX0 : ∀ a, a < 2 → ∀ b, b < 2 → a ≠ b → (TX0 a).2.1 ≠ (TX0 b).2.1 := by decide +kernel
theorem tyX0_ok : ∀ k, k < 2 → parseFieldDescriptor (TX0 k).2.2.1 = some (tyX0 k) := by decide +kernel
abbrev cX0_init : ByteArray := prog_2_method_1_code
def yX0_init : MethodName := ⟨RX0, "<init>", "()V"⟩
abbrev cX0_winningMove : ByteArray := prog_2_method_2_code
def yX0_winningMove : MethodName := ⟨RX0, "winningMove", "(IZ)I"⟩
abbrev cX0_isLost : ByteArray := prog_2_method_3_code
def yX0_isLost : MethodName := ⟨RX0, "isLost", "(IZ)Z"⟩
abbrev cX0_learn : ByteArray := prog_2_method_4_code
def yX0_learn : MethodName := ⟨RX0, "learn", "()V"⟩
abbrev cX0_winsAtOnce : ByteArray := prog_2_method_5_code
def yX0_winsAtOnce : MethodName := ⟨RX0, "winsAtOnce", "(II)Z"⟩
def RX1 : String := "BaizeCorps$Image"
def TX1 : u_T := fun k => match k with
  | 0 => ("BaizeCorps$Image", "table", "LBaizeCorps$Table;", true)
  | 1 => ("BaizeCorps$Image", "sights", "LBaizeCorps$Sights;", true)
  | _ => ("BaizeCorps$Image", "kept", "Z", false)
def tyX1 : Nat → FieldType := fun k => match k with
  | 0 => .object "BaizeCorps$Table"
  | 1 => .object "BaizeCorps$Sights"
  | _ => .boolean
abbrev wsX10 : List Cond := u_ws RX1 TX1 3
theorem nmX1 : ∀ a, a < 3 → ∀ b, b < 3 → a ≠ b → (TX1 a).2.1 ≠ (TX1 b).2.1 := by decide +kernel
theorem tyX1_ok : ∀ k, k < 3 → parseFieldDescriptor (TX1 k).2.2.1 = some (tyX1 k) := by decide +kernel
abbrev cX1_init : ByteArray := prog_3_method_1_code
def yX1_init : MethodName := ⟨RX1, "<init>", "()V"⟩
abbrev cX1_keep : ByteArray := prog_3_method_2_code
def yX1_keep : MethodName := ⟨RX1, "keep", "(LBaizeCorps$Table;LBaizeCorps$Sights;)V"⟩
def RX2 : String := "BaizeCorps$Odds"
def TX2 : u_T := fun k => match k with
  | _ => ("", "", "", false)
def tyX2 : Nat → FieldType := fun k => match k with
  | _ => .int
abbrev wsX20 : List Cond := u_ws RX2 TX2 0
theorem nmX2 : ∀ a, a < 0 → ∀ b, b < 0 → a ≠ b → (TX2 a).2.1 ≠ (TX2 b).2.1 := by decide +kernel
theorem tyX2_ok : ∀ k, k < 0 → parseFieldDescriptor (TX2 k).2.2.1 = some (tyX2 k) := by decide +kernel
abbrev cX2_winning : ByteArray := prog_4_method_2_code
def yX2_winning : MethodName := ⟨RX2, "winning", "(III)J"⟩
abbrev cX2_games : ByteArray := prog_4_method_3_code
def yX2_games : MethodName := ⟨RX2, "games", "(III)J"⟩
abbrev cX2_power : ByteArray := prog_4_method_4_code
def yX2_power : MethodName := ⟨RX2, "power", "(II)J"⟩
abbrev cX2_choose : ByteArray := prog_4_method_5_code
def yX2_choose : MethodName := ⟨RX2, "choose", "(II)J"⟩
abbrev cX2_commonDivisor : ByteArray := prog_4_method_6_code
def yX2_commonDivisor : MethodName := ⟨RX2, "commonDivisor", "(JJ)J"⟩
def RX3 : String := "BaizeCorps$Pad"
def TX3 : u_T := fun k => match k with
  | 0 => ("BaizeCorps$Pad", "signs", "[I", true)
  | _ => ("BaizeCorps$Pad", "count", "I", false)
def tyX3 : Nat → FieldType := fun k => match k with
  | 0 => .array .int
  | _ => .int
abbrev wsX30 : List Cond := u_ws RX3 TX3 2
theorem nmX3 : ∀ a, a < 2 → ∀ b, b < 2 → a ≠ b → (TX3 a).2.1 ≠ (TX3 b).2.1 := by decide +kernel
theorem tyX3_ok : ∀ k, k < 2 → parseFieldDescriptor (TX3 k).2.2.1 = some (tyX3 k) := by decide +kernel
abbrev cX3_init : ByteArray := prog_5_method_1_code
def yX3_init : MethodName := ⟨RX3, "<init>", "()V"⟩
abbrev cX3_add : ByteArray := prog_5_method_2_code
def yX3_add : MethodName := ⟨RX3, "add", "(I)Z"⟩
abbrev cX3_empty : ByteArray := prog_5_method_3_code
def yX3_empty : MethodName := ⟨RX3, "empty", "()I"⟩
abbrev cX3_signAt : ByteArray := prog_5_method_4_code
def yX3_signAt : MethodName := ⟨RX3, "signAt", "(I)I"⟩
abbrev cX3_firstFault : ByteArray := prog_5_method_5_code
def yX3_firstFault : MethodName := ⟨RX3, "firstFault", "()I"⟩
abbrev cX3_canStand : ByteArray := prog_5_method_6_code
def yX3_canStand : MethodName := ⟨RX3, "canStand", "(II)Z"⟩
abbrev cX3_isActAt : ByteArray := prog_5_method_7_code
def yX3_isActAt : MethodName := ⟨RX3, "isActAt", "(II)Z"⟩
abbrev cX3_isLetter : ByteArray := prog_5_method_8_code
def yX3_isLetter : MethodName := ⟨RX3, "isLetter", "(I)Z"⟩
abbrev cX3_actKind : ByteArray := prog_5_method_9_code
def yX3_actKind : MethodName := ⟨RX3, "actKind", "(I)I"⟩
abbrev cX3_actLength : ByteArray := prog_5_method_10_code
def yX3_actLength : MethodName := ⟨RX3, "actLength", "(I)I"⟩
def RX4 : String := "BaizeCorps$Sights"
def TX4 : u_T := fun k => match k with
  | 0 => ("BaizeCorps$Sights", "steps", "[I", true)
  | 1 => ("BaizeCorps$Sights", "cells", "[I", true)
  | _ => ("BaizeCorps$Sights", "count", "I", false)
def tyX4 : Nat → FieldType := fun k => match k with
  | 0 => .array .int
  | 1 => .array .int
  | _ => .int
abbrev wsX40 : List Cond := u_ws RX4 TX4 3
theorem nmX4 : ∀ a, a < 3 → ∀ b, b < 3 → a ≠ b → (TX4 a).2.1 ≠ (TX4 b).2.1 := by decide +kernel
theorem tyX4_ok : ∀ k, k < 3 → parseFieldDescriptor (TX4 k).2.2.1 = some (tyX4 k) := by decide +kernel
abbrev cX4_init : ByteArray := prog_6_method_1_code
def yX4_init : MethodName := ⟨RX4, "<init>", "()V"⟩
abbrev cX4_add : ByteArray := prog_6_method_2_code
def yX4_add : MethodName := ⟨RX4, "add", "(II)Z"⟩
abbrev cX4_copy : ByteArray := prog_6_method_3_code
def yX4_copy : MethodName := ⟨RX4, "copy", "(LBaizeCorps$Sights;)V"⟩
abbrev cX4_allFit : ByteArray := prog_6_method_4_code
def yX4_allFit : MethodName := ⟨RX4, "allFit", "(LBaizeCorps$Track;)Z"⟩
def RX5 : String := "BaizeCorps$Stroke"
def TX5 : u_T := fun k => match k with
  | 0 => ("BaizeCorps$Stroke", "sentBall", "I", false)
  | 1 => ("BaizeCorps$Stroke", "touches", "I", false)
  | 2 => ("BaizeCorps$Stroke", "cushions", "I", false)
  | 3 => ("BaizeCorps$Stroke", "downBall", "I", false)
  | 4 => ("BaizeCorps$Stroke", "firstTouched", "I", false)
  | 5 => ("BaizeCorps$Stroke", "firstForce", "I", false)
  | _ => ("BaizeCorps$Stroke", "firstCushions", "I", false)
def tyX5 : Nat → FieldType := fun k => match k with
  | 0 => .int
  | 1 => .int
  | 2 => .int
  | 3 => .int
  | 4 => .int
  | 5 => .int
  | _ => .int
abbrev wsX50 : List Cond := u_ws RX5 TX5 7
theorem nmX5 : ∀ a, a < 7 → ∀ b, b < 7 → a ≠ b → (TX5 a).2.1 ≠ (TX5 b).2.1 := by decide +kernel
theorem tyX5_ok : ∀ k, k < 7 → parseFieldDescriptor (TX5 k).2.2.1 = some (tyX5 k) := by decide +kernel
abbrev cX5_init : ByteArray := prog_7_method_1_code
def yX5_init : MethodName := ⟨RX5, "<init>", "()V"⟩
abbrev cX5_run : ByteArray := prog_7_method_2_code
def yX5_run : MethodName := ⟨RX5, "run", "(LBaizeCorps$Table;III)V"⟩
abbrev cX5_begin : ByteArray := prog_7_method_3_code
def yX5_begin : MethodName := ⟨RX5, "begin", "(I)V"⟩
abbrev cX5_touch : ByteArray := prog_7_method_4_code
def yX5_touch : MethodName := ⟨RX5, "touch", "(II)V"⟩
abbrev cX5_pointsMore : ByteArray := prog_7_method_5_code
def yX5_pointsMore : MethodName := ⟨RX5, "pointsMore", "()I"⟩
abbrev cX5_foulsMore : ByteArray := prog_7_method_6_code
def yX5_foulsMore : MethodName := ⟨RX5, "foulsMore", "()I"⟩
def RX6 : String := "BaizeCorps$Table"
def TX6 : u_T := fun k => match k with
  | 0 => ("BaizeCorps$Table", "cells", "[I", true)
  | 1 => ("BaizeCorps$Table", "points", "I", false)
  | 2 => ("BaizeCorps$Table", "fouls", "I", false)
  | _ => ("BaizeCorps$Table", "evening", "I", false)
def tyX6 : Nat → FieldType := fun k => match k with
  | 0 => .array .int
  | 1 => .int
  | 2 => .int
  | _ => .int
abbrev wsX60 : List Cond := u_ws RX6 TX6 4
theorem nmX6 : ∀ a, a < 4 → ∀ b, b < 4 → a ≠ b → (TX6 a).2.1 ≠ (TX6 b).2.1 := by decide +kernel
theorem tyX6_ok : ∀ k, k < 4 → parseFieldDescriptor (TX6 k).2.2.1 = some (tyX6 k) := by decide +kernel
abbrev cX6_init : ByteArray := prog_8_method_1_code
def yX6_init : MethodName := ⟨RX6, "<init>", "()V"⟩
abbrev cX6_copy : ByteArray := prog_8_method_2_code
def yX6_copy : MethodName := ⟨RX6, "copy", "(LBaizeCorps$Table;)V"⟩
abbrev cX6_isDown : ByteArray := prog_8_method_3_code
def yX6_isDown : MethodName := ⟨RX6, "isDown", "(I)Z"⟩
abbrev cX6_cellOrNone : ByteArray := prog_8_method_4_code
def yX6_cellOrNone : MethodName := ⟨RX6, "cellOrNone", "(I)I"⟩
abbrev cX6_lyingOn : ByteArray := prog_8_method_5_code
def yX6_lyingOn : MethodName := ⟨RX6, "lyingOn", "(I)I"⟩
abbrev cX6_howManyDown : ByteArray := prog_8_method_6_code
def yX6_howManyDown : MethodName := ⟨RX6, "howManyDown", "()I"⟩
abbrev cX6_reasonAgainst : ByteArray := prog_8_method_7_code
def yX6_reasonAgainst : MethodName := ⟨RX6, "reasonAgainst", "(II)I"⟩
abbrev cX6_drift : ByteArray := prog_8_method_8_code
def yX6_drift : MethodName := ⟨RX6, "drift", "()V"⟩
abbrev cX6_driftOne : ByteArray := prog_8_method_9_code
def yX6_driftOne : MethodName := ⟨RX6, "driftOne", "(I)V"⟩
def RX7 : String := "BaizeCorps$Track"
def TX7 : u_T := fun k => match k with
  | 0 => ("BaizeCorps$Track", "cells", "[I", true)
  | 1 => ("BaizeCorps$Track", "back", "I", false)
  | _ => ("BaizeCorps$Track", "everOn", "J", false)
def tyX7 : Nat → FieldType := fun k => match k with
  | 0 => .array .int
  | 1 => .int
  | _ => .long
abbrev wsX70 : List Cond := u_ws RX7 TX7 3
theorem nmX7 : ∀ a, a < 3 → ∀ b, b < 3 → a ≠ b → (TX7 a).2.1 ≠ (TX7 b).2.1 := by decide +kernel
theorem tyX7_ok : ∀ k, k < 3 → parseFieldDescriptor (TX7 k).2.2.1 = some (tyX7 k) := by decide +kernel
abbrev cX7_init : ByteArray := prog_9_method_1_code
def yX7_init : MethodName := ⟨RX7, "<init>", "()V"⟩
abbrev cX7_walk : ByteArray := prog_9_method_2_code
def yX7_walk : MethodName := ⟨RX7, "walk", "(II)V"⟩
abbrev cX7_cellBehind : ByteArray := prog_9_method_3_code
def yX7_cellBehind : MethodName := ⟨RX7, "cellBehind", "(I)I"⟩
def RX8 : String := "BaizeCorps$Trial"
def TX8 : u_T := fun k => match k with
  | 0 => ("BaizeCorps$Trial", "table", "LBaizeCorps$Table;", true)
  | 1 => ("BaizeCorps$Trial", "stroke", "LBaizeCorps$Stroke;", true)
  | 2 => ("BaizeCorps$Trial", "acts", "I", false)
  | 3 => ("BaizeCorps$Trial", "badAct", "I", false)
  | 4 => ("BaizeCorps$Trial", "why", "I", false)
  | 5 => ("BaizeCorps$Trial", "touches", "I", false)
  | 6 => ("BaizeCorps$Trial", "cushions", "I", false)
  | _ => ("BaizeCorps$Trial", "foulAct", "I", false)
def tyX8 : Nat → FieldType := fun k => match k with
  | 0 => .object "BaizeCorps$Table"
  | 1 => .object "BaizeCorps$Stroke"
  | 2 => .int
  | 3 => .int
  | 4 => .int
  | 5 => .int
  | 6 => .int
  | _ => .int
abbrev wsX80 : List Cond := u_ws RX8 TX8 8
theorem nmX8 : ∀ a, a < 8 → ∀ b, b < 8 → a ≠ b → (TX8 a).2.1 ≠ (TX8 b).2.1 := by decide +kernel
theorem tyX8_ok : ∀ k, k < 8 → parseFieldDescriptor (TX8 k).2.2.1 = some (tyX8 k) := by decide +kernel
abbrev cX8_init : ByteArray := prog_10_method_1_code
def yX8_init : MethodName := ⟨RX8, "<init>", "()V"⟩
abbrev cX8_begin : ByteArray := prog_10_method_2_code
def yX8_begin : MethodName := ⟨RX8, "begin", "(LBaizeCorps$Table;)V"⟩
abbrev cX8_runText : ByteArray := prog_10_method_3_code
def yX8_runText : MethodName := ⟨RX8, "runText", "(LBaizeCorps$Pad;LBaizeCorps$Table;)V"⟩
abbrev cX8_runSeason : ByteArray := prog_10_method_4_code
def yX8_runSeason : MethodName := ⟨RX8, "runSeason", "(IILBaizeCorps$Table;)V"⟩
abbrev cX8_forceToTouch : ByteArray := prog_10_method_5_code
def yX8_forceToTouch : MethodName := ⟨RX8, "forceToTouch", "(LBaizeCorps$Table;IIII)I"⟩
abbrev cX8_tryAct : ByteArray := prog_10_method_6_code
def yX8_tryAct : MethodName := ⟨RX8, "tryAct", "(IIII)I"⟩
abbrev cX8_play : ByteArray := prog_10_method_7_code
def yX8_play : MethodName := ⟨RX8, "play", "(III)V"⟩
def RX9 : String := "BaizeCorps$Whence"
def TX9 : u_T := fun k => match k with
  | 0 => ("BaizeCorps$Whence", "codes", "[I", true)
  | 1 => ("BaizeCorps$Whence", "count", "I", false)
  | 2 => ("BaizeCorps$Whence", "bestStep", "I", false)
  | 3 => ("BaizeCorps$Whence", "leftAtMost", "I", false)
  | _ => ("BaizeCorps$Whence", "leftAt", "[I", true)
def tyX9 : Nat → FieldType := fun k => match k with
  | 0 => .array .int
  | 1 => .int
  | 2 => .int
  | 3 => .int
  | _ => .array .int
abbrev wsX90 : List Cond := u_ws RX9 TX9 5
theorem nmX9 : ∀ a, a < 5 → ∀ b, b < 5 → a ≠ b → (TX9 a).2.1 ≠ (TX9 b).2.1 := by decide +kernel
theorem tyX9_ok : ∀ k, k < 5 → parseFieldDescriptor (TX9 k).2.2.1 = some (tyX9 k) := by decide +kernel
abbrev cX9_init : ByteArray := prog_11_method_1_code
def yX9_init : MethodName := ⟨RX9, "<init>", "()V"⟩
abbrev cX9_gather : ByteArray := prog_11_method_2_code
def yX9_gather : MethodName := ⟨RX9, "gather", "(LBaizeCorps$Sights;LBaizeCorps$Track;)V"⟩
abbrev cX9_chooseStep : ByteArray := prog_11_method_3_code
def yX9_chooseStep : MethodName := ⟨RX9, "chooseStep", "(LBaizeCorps$Track;)V"⟩
abbrev cX9_countLeft : ByteArray := prog_11_method_4_code
def yX9_countLeft : MethodName := ⟨RX9, "countLeft", "(LBaizeCorps$Track;)V"⟩
abbrev cX9_mostLeftAt : ByteArray := prog_11_method_5_code
def yX9_mostLeftAt : MethodName := ⟨RX9, "mostLeftAt", "(I)I"⟩
def RX10 : String := "BaizeCorps"
def TX10 : u_T := fun k => match k with
  | 0 => ("BaizeCorps", "now", "LBaizeCorps$Table;", true)
  | 1 => ("BaizeCorps", "sights", "LBaizeCorps$Sights;", true)
  | 2 => ("BaizeCorps", "pad", "LBaizeCorps$Pad;", true)
  | 3 => ("BaizeCorps", "trial", "LBaizeCorps$Trial;", true)
  | 4 => ("BaizeCorps", "track", "LBaizeCorps$Track;", true)
  | 5 => ("BaizeCorps", "whence", "LBaizeCorps$Whence;", true)
  | 6 => ("BaizeCorps", "heaps", "LBaizeCorps$Heaps;", true)
  | _ => ("BaizeCorps", "images", "[LBaizeCorps$Image;", true)
def tyX10 : Nat → FieldType := fun k => match k with
  | 0 => .object "BaizeCorps$Table"
  | 1 => .object "BaizeCorps$Sights"
  | 2 => .object "BaizeCorps$Pad"
  | 3 => .object "BaizeCorps$Trial"
  | 4 => .object "BaizeCorps$Track"
  | 5 => .object "BaizeCorps$Whence"
  | 6 => .object "BaizeCorps$Heaps"
  | _ => .array (.object "BaizeCorps$Image")
abbrev wsX100 : List Cond := u_ws RX10 TX10 8
theorem nmX10 : ∀ a, a < 8 → ∀ b, b < 8 → a ≠ b → (TX10 a).2.1 ≠ (TX10 b).2.1 := by decide +kernel
theorem tyX10_ok : ∀ k, k < 8 → parseFieldDescriptor (TX10 k).2.2.1 = some (tyX10 k) := by decide +kernel
abbrev cX10_init : ByteArray := prog_1_method_1_code
def yX10_init : MethodName := ⟨RX10, "<init>", "()V"⟩
abbrev cX10_ball : ByteArray := prog_1_method_2_code
def yX10_ball : MethodName := ⟨RX10, "ball", "(II)I"⟩
abbrev cX10_score : ByteArray := prog_1_method_3_code
def yX10_score : MethodName := ⟨RX10, "score", "(II)I"⟩
abbrev cX10_say : ByteArray := prog_1_method_4_code
def yX10_say : MethodName := ⟨RX10, "say", "(I)I"⟩
abbrev cX10_wipe : ByteArray := prog_1_method_5_code
def yX10_wipe : MethodName := ⟨RX10, "wipe", "()I"⟩
abbrev cX10_fault : ByteArray := prog_1_method_6_code
def yX10_fault : MethodName := ⟨RX10, "fault", "()I"⟩
abbrev cX10_judge : ByteArray := prog_1_method_7_code
def yX10_judge : MethodName := ⟨RX10, "judge", "(I)I"⟩
abbrev cX10_behind : ByteArray := prog_1_method_8_code
def yX10_behind : MethodName := ⟨RX10, "behind", "(I)I"⟩
abbrev cX10_table : ByteArray := prog_1_method_9_code
def yX10_table : MethodName := ⟨RX10, "table", "(I)I"⟩
abbrev cX10_candour : ByteArray := prog_1_method_10_code
def yX10_candour : MethodName := ⟨RX10, "candour", "(I)I"⟩
abbrev cX10_done : ByteArray := prog_1_method_11_code
def yX10_done : MethodName := ⟨RX10, "done", "()I"⟩
abbrev cX10_tryText : ByteArray := prog_1_method_12_code
def yX10_tryText : MethodName := ⟨RX10, "tryText", "()I"⟩
abbrev cX10_hint : ByteArray := prog_1_method_13_code
def yX10_hint : MethodName := ⟨RX10, "hint", "(IIII)I"⟩
abbrev cX10_alone : ByteArray := prog_1_method_14_code
def yX10_alone : MethodName := ⟨RX10, "alone", "(IIII)I"⟩
abbrev cX10_strokes : ByteArray := prog_1_method_15_code
def yX10_strokes : MethodName := ⟨RX10, "strokes", "(III)I"⟩
abbrev cX10_firstWayInto : ByteArray := prog_1_method_16_code
def yX10_firstWayInto : MethodName := ⟨RX10, "firstWayInto", "(IJ)I"⟩
abbrev cX10_withAllThatReach : ByteArray := prog_1_method_17_code
def yX10_withAllThatReach : MethodName := ⟨RX10, "withAllThatReach", "(J)J"⟩
abbrev cX10_reachOf : ByteArray := prog_1_method_18_code
def yX10_reachOf : MethodName := ⟨RX10, "reachOf", "(II)J"⟩
abbrev cX10_seen : ByteArray := prog_1_method_19_code
def yX10_seen : MethodName := ⟨RX10, "seen", "(II)I"⟩
abbrev cX10_forget : ByteArray := prog_1_method_20_code
def yX10_forget : MethodName := ⟨RX10, "forget", "()I"⟩
abbrev cX10_sent : ByteArray := prog_1_method_21_code
def yX10_sent : MethodName := ⟨RX10, "sent", "(I)I"⟩
abbrev cX10_ask : ByteArray := prog_1_method_22_code
def yX10_ask : MethodName := ⟨RX10, "ask", "(I)I"⟩
abbrev cX10_chalk : ByteArray := prog_1_method_23_code
def yX10_chalk : MethodName := ⟨RX10, "chalk", "(III)I"⟩
abbrev cX10_match : ByteArray := prog_1_method_24_code
def yX10_match : MethodName := ⟨RX10, "match", "(IIIIII)J"⟩
abbrev cX10_season : ByteArray := prog_1_method_25_code
def yX10_season : MethodName := ⟨RX10, "season", "(III)I"⟩
abbrev cX10_image : ByteArray := prog_1_method_26_code
def yX10_image : MethodName := ⟨RX10, "image", "(I)I"⟩
abbrev cX10_restore : ByteArray := prog_1_method_27_code
def yX10_restore : MethodName := ⟨RX10, "restore", "(I)I"⟩
abbrev cX10_told : ByteArray := prog_1_method_28_code
def yX10_told : MethodName := ⟨RX10, "told", "(I)I"⟩
abbrev cX10_isWithin : ByteArray := prog_1_method_29_code
def yX10_isWithin : MethodName := ⟨RX10, "isWithin", "(III)Z"⟩
abbrev cX10_isBall : ByteArray := prog_1_method_30_code
def yX10_isBall : MethodName := ⟨RX10, "isBall", "(I)Z"⟩
abbrev cX10_isCell : ByteArray := prog_1_method_31_code
def yX10_isCell : MethodName := ⟨RX10, "isCell", "(I)Z"⟩
abbrev cX10_isPocket : ByteArray := prog_1_method_32_code
def yX10_isPocket : MethodName := ⟨RX10, "isPocket", "(I)Z"⟩
abbrev cX10_isPlace : ByteArray := prog_1_method_33_code
def yX10_isPlace : MethodName := ⟨RX10, "isPlace", "(I)Z"⟩
abbrev cX10_bit : ByteArray := prog_1_method_34_code
def yX10_bit : MethodName := ⟨RX10, "bit", "(I)J"⟩
abbrev cX10_turned : ByteArray := prog_1_method_35_code
def yX10_turned : MethodName := ⟨RX10, "turned", "(II)I"⟩
abbrev cX10_next : ByteArray := prog_1_method_36_code
def yX10_next : MethodName := ⟨RX10, "next", "(II)I"⟩
def RX11 : String := "BaizeCorpsModel"
def TX11 : u_T := fun k => match k with
  | 0 => ("BaizeCorpsModel", "cell", "[I", true)
  | 1 => ("BaizeCorpsModel", "points", "I", false)
  | 2 => ("BaizeCorpsModel", "fouls", "I", false)
  | 3 => ("BaizeCorpsModel", "evening", "I", false)
  | 4 => ("BaizeCorpsModel", "sightStep", "[I", true)
  | 5 => ("BaizeCorpsModel", "sightCell", "[I", true)
  | 6 => ("BaizeCorpsModel", "sights", "I", false)
  | 7 => ("BaizeCorpsModel", "pad", "[I", true)
  | 8 => ("BaizeCorpsModel", "padMany", "I", false)
  | 9 => ("BaizeCorpsModel", "act", "[I", true)
  | 10 => ("BaizeCorpsModel", "which", "[I", true)
  | 11 => ("BaizeCorpsModel", "whither", "[I", true)
  | 12 => ("BaizeCorpsModel", "hard", "[I", true)
  | 13 => ("BaizeCorpsModel", "acts", "I", false)
  | 14 => ("BaizeCorpsModel", "moving", "I", false)
  | 15 => ("BaizeCorpsModel", "goes", "I", false)
  | 16 => ("BaizeCorpsModel", "left", "I", false)
  | 17 => ("BaizeCorpsModel", "touches", "I", false)
  | 18 => ("BaizeCorpsModel", "cushions", "I", false)
  | 19 => ("BaizeCorpsModel", "cushionsThen", "I", false)
  | 20 => ("BaizeCorpsModel", "touchedFirst", "I", false)
  | 21 => ("BaizeCorpsModel", "stepsThen", "I", false)
  | 22 => ("BaizeCorpsModel", "downNow", "I", false)
  | 23 => ("BaizeCorpsModel", "touchedMany", "I", false)
  | 24 => ("BaizeCorpsModel", "cushionMany", "I", false)
  | 25 => ("BaizeCorpsModel", "were", "[I", true)
  | 26 => ("BaizeCorpsModel", "had", "[I", true)
  | 27 => ("BaizeCorpsModel", "badAct", "I", false)
  | 28 => ("BaizeCorpsModel", "badWhy", "I", false)
  | 29 => ("BaizeCorpsModel", "foulAct", "I", false)
  | 30 => ("BaizeCorpsModel", "met", "[Z", true)
  | 31 => ("BaizeCorpsModel", "far", "[I", true)
  | 32 => ("BaizeCorpsModel", "fit", "[I", true)
  | 33 => ("BaizeCorpsModel", "now", "[I", true)
  | 34 => ("BaizeCorpsModel", "fitMany", "I", false)
  | 35 => ("BaizeCorpsModel", "byCell", "[I", true)
  | 36 => ("BaizeCorpsModel", "wins", "[Z", true)
  | 37 => ("BaizeCorpsModel", "chance", "[J", true)
  | 38 => ("BaizeCorpsModel", "kept", "[I", true)
  | 39 => ("BaizeCorpsModel", "isKept", "[Z", true)
  | 40 => ("BaizeCorpsModel", "keptAt", "I", false)
  | _ => ("BaizeCorpsModel", "isWriting", "Z", false)
def tyX11 : Nat → FieldType := fun k => match k with
  | 0 => .array .int
  | 1 => .int
  | 2 => .int
  | 3 => .int
  | 4 => .array .int
  | 5 => .array .int
  | 6 => .int
  | 7 => .array .int
  | 8 => .int
  | 9 => .array .int
  | 10 => .array .int
  | 11 => .array .int
  | 12 => .array .int
  | 13 => .int
  | 14 => .int
  | 15 => .int
  | 16 => .int
  | 17 => .int
  | 18 => .int
  | 19 => .int
  | 20 => .int
  | 21 => .int
  | 22 => .int
  | 23 => .int
  | 24 => .int
  | 25 => .array .int
  | 26 => .array .int
  | 27 => .int
  | 28 => .int
  | 29 => .int
  | 30 => .array .boolean
  | 31 => .array .int
  | 32 => .array .int
  | 33 => .array .int
  | 34 => .int
  | 35 => .array .int
  | 36 => .array .boolean
  | 37 => .array .long
  | 38 => .array .int
  | 39 => .array .boolean
  | 40 => .int
  | _ => .boolean
abbrev wsX110 : List Cond := u_ws RX11 TX11 42
theorem nmX11 : ∀ a, a < 42 → ∀ b, b < 42 → a ≠ b → (TX11 a).2.1 ≠ (TX11 b).2.1 := by decide +kernel
theorem tyX11_ok : ∀ k, k < 42 → parseFieldDescriptor (TX11 k).2.2.1 = some (tyX11 k) := by decide +kernel
abbrev cX11_init : ByteArray := prog_13_method_1_code
def yX11_init : MethodName := ⟨RX11, "<init>", "()V"⟩
abbrev cX11_in : ByteArray := prog_13_method_3_code
def yX11_in : MethodName := ⟨RX11, "in", "(JJJ)Z"⟩
abbrev cX11_isBall : ByteArray := prog_13_method_4_code
def yX11_isBall : MethodName := ⟨RX11, "isBall", "(I)Z"⟩
abbrev cX11_isCell : ByteArray := prog_13_method_5_code
def yX11_isCell : MethodName := ⟨RX11, "isCell", "(I)Z"⟩
abbrev cX11_isPocket : ByteArray := prog_13_method_6_code
def yX11_isPocket : MethodName := ⟨RX11, "isPocket", "(I)Z"⟩
abbrev cX11_isPlace : ByteArray := prog_13_method_7_code
def yX11_isPlace : MethodName := ⟨RX11, "isPlace", "(I)Z"⟩
abbrev cX11_home : ByteArray := prog_13_method_8_code
def yX11_home : MethodName := ⟨RX11, "home", "(I)I"⟩
abbrev cX11_downwards : ByteArray := prog_13_method_9_code
def yX11_downwards : MethodName := ⟨RX11, "downwards", "(I)I"⟩
abbrev cX11_across : ByteArray := prog_13_method_10_code
def yX11_across : MethodName := ⟨RX11, "across", "(I)I"⟩
abbrev cX11_turned : ByteArray := prog_13_method_11_code
def yX11_turned : MethodName := ⟨RX11, "turned", "(II)I"⟩
abbrev cX11_ahead : ByteArray := prog_13_method_12_code
def yX11_ahead : MethodName := ⟨RX11, "ahead", "(II)I"⟩
abbrev cX11_ballOn : ByteArray := prog_13_method_13_code
def yX11_ballOn : MethodName := ⟨RX11, "ballOn", "(I)I"⟩
abbrev cX11_ball : ByteArray := prog_13_method_14_code
def yX11_ball : MethodName := ⟨RX11, "ball", "(II)I"⟩
abbrev cX11_score : ByteArray := prog_13_method_15_code
def yX11_score : MethodName := ⟨RX11, "score", "(II)I"⟩
abbrev cX11_say : ByteArray := prog_13_method_16_code
def yX11_say : MethodName := ⟨RX11, "say", "(I)I"⟩
abbrev cX11_wipe : ByteArray := prog_13_method_17_code
def yX11_wipe : MethodName := ⟨RX11, "wipe", "()I"⟩
abbrev cX11_close : ByteArray := prog_13_method_18_code
def yX11_close : MethodName := ⟨RX11, "close", "(I)I"⟩
abbrev cX11_begin : ByteArray := prog_13_method_19_code
def yX11_begin : MethodName := ⟨RX11, "begin", "(I)I"⟩
abbrev cX11_deed : ByteArray := prog_13_method_20_code
def yX11_deed : MethodName := ⟨RX11, "deed", "(I)I"⟩
abbrev cX11_force : ByteArray := prog_13_method_21_code
def yX11_force : MethodName := ⟨RX11, "force", "(I)I"⟩
abbrev cX11_readOn : ByteArray := prog_13_method_22_code
def yX11_readOn : MethodName := ⟨RX11, "readOn", "(II)I"⟩
abbrev cX11_fault : ByteArray := prog_13_method_23_code
def yX11_fault : MethodName := ⟨RX11, "fault", "()I"⟩
abbrev cX11_touch : ByteArray := prog_13_method_24_code
def yX11_touch : MethodName := ⟨RX11, "touch", "(II)V"⟩
abbrev cX11_step : ByteArray := prog_13_method_25_code
def yX11_step : MethodName := ⟨RX11, "step", "(I)V"⟩
abbrev cX11_send : ByteArray := prog_13_method_26_code
def yX11_send : MethodName := ⟨RX11, "send", "(III)V"⟩
abbrev cX11_stroke : ByteArray := prog_13_method_27_code
def yX11_stroke : MethodName := ⟨RX11, "stroke", "(III)V"⟩
abbrev cX11_columnOf : ByteArray := prog_13_method_28_code
def yX11_columnOf : MethodName := ⟨RX11, "columnOf", "(I)I"⟩
abbrev cX11_drift : ByteArray := prog_13_method_29_code
def yX11_drift : MethodName := ⟨RX11, "drift", "(I)V"⟩
abbrev cX11_nap : ByteArray := prog_13_method_30_code
def yX11_nap : MethodName := ⟨RX11, "nap", "()V"⟩
abbrev cX11_whyNot : ByteArray := prog_13_method_31_code
def yX11_whyNot : MethodName := ⟨RX11, "whyNot", "(II)I"⟩
abbrev cX11_happen : ByteArray := prog_13_method_32_code
def yX11_happen : MethodName := ⟨RX11, "happen", "(IIII)V"⟩
abbrev cX11_keepNow : ByteArray := prog_13_method_33_code
def yX11_keepNow : MethodName := ⟨RX11, "keepNow", "()V"⟩
abbrev cX11_back : ByteArray := prog_13_method_34_code
def yX11_back : MethodName := ⟨RX11, "back", "(I)I"⟩
abbrev cX11_goCrises : ByteArray := prog_13_method_35_code
def yX11_goCrises : MethodName := ⟨RX11, "goCrises", "()V"⟩
abbrev cX11_refusal : ByteArray := prog_13_method_36_code
def yX11_refusal : MethodName := ⟨RX11, "refusal", "()I"⟩
abbrev cX11_judge : ByteArray := prog_13_method_37_code
def yX11_judge : MethodName := ⟨RX11, "judge", "(I)I"⟩
abbrev cX11_behind : ByteArray := prog_13_method_38_code
def yX11_behind : MethodName := ⟨RX11, "behind", "(I)I"⟩
abbrev cX11_downMany : ByteArray := prog_13_method_39_code
def yX11_downMany : MethodName := ⟨RX11, "downMany", "()I"⟩
abbrev cX11_table : ByteArray := prog_13_method_40_code
def yX11_table : MethodName := ⟨RX11, "table", "(I)I"⟩
abbrev cX11_candour : ByteArray := prog_13_method_41_code
def yX11_candour : MethodName := ⟨RX11, "candour", "(I)I"⟩
abbrev cX11_done : ByteArray := prog_13_method_42_code
def yX11_done : MethodName := ⟨RX11, "done", "()I"⟩
abbrev cX11_stepsBy : ByteArray := prog_13_method_43_code
def yX11_stepsBy : MethodName := ⟨RX11, "stepsBy", "(IIII)I"⟩
abbrev cX11_hint : ByteArray := prog_13_method_44_code
def yX11_hint : MethodName := ⟨RX11, "hint", "(IIII)I"⟩
abbrev cX11_next : ByteArray := prog_13_method_45_code
def yX11_next : MethodName := ⟨RX11, "next", "(I)I"⟩
abbrev cX11_behindSteps : ByteArray := prog_13_method_46_code
def yX11_behindSteps : MethodName := ⟨RX11, "behindSteps", "(II)I"⟩
abbrev cX11_metMany : ByteArray := prog_13_method_47_code
def yX11_metMany : MethodName := ⟨RX11, "metMany", "(I)I"⟩
abbrev cX11_stepsBack : ByteArray := prog_13_method_48_code
def yX11_stepsBack : MethodName := ⟨RX11, "stepsBack", "(I)I"⟩
abbrev cX11_alone : ByteArray := prog_13_method_49_code
def yX11_alone : MethodName := ⟨RX11, "alone", "(IIII)I"⟩
abbrev cX11_leadsTo : ByteArray := prog_13_method_50_code
def yX11_leadsTo : MethodName := ⟨RX11, "leadsTo", "(III)Z"⟩
abbrev cX11_wayTo : ByteArray := prog_13_method_51_code
def yX11_wayTo : MethodName := ⟨RX11, "wayTo", "(II)I"⟩
abbrev cX11_findFar : ByteArray := prog_13_method_52_code
def yX11_findFar : MethodName := ⟨RX11, "findFar", "(I)Z"⟩
abbrev cX11_strokes : ByteArray := prog_13_method_53_code
def yX11_strokes : MethodName := ⟨RX11, "strokes", "(III)I"⟩
abbrev cX11_seen : ByteArray := prog_13_method_54_code
def yX11_seen : MethodName := ⟨RX11, "seen", "(II)I"⟩
abbrev cX11_forget : ByteArray := prog_13_method_55_code
def yX11_forget : MethodName := ⟨RX11, "forget", "()I"⟩
abbrev cX11_isFit : ByteArray := prog_13_method_56_code
def yX11_isFit : MethodName := ⟨RX11, "isFit", "(I)Z"⟩
abbrev cX11_findFits : ByteArray := prog_13_method_57_code
def yX11_findFits : MethodName := ⟨RX11, "findFits", "()V"⟩
abbrev cX11_sent : ByteArray := prog_13_method_58_code
def yX11_sent : MethodName := ⟨RX11, "sent", "(I)I"⟩
abbrev cX11_mostNow : ByteArray := prog_13_method_59_code
def yX11_mostNow : MethodName := ⟨RX11, "mostNow", "()I"⟩
abbrev cX11_ask : ByteArray := prog_13_method_60_code
def yX11_ask : MethodName := ⟨RX11, "ask", "(I)I"⟩
abbrev cX11_digit : ByteArray := prog_13_method_61_code
def yX11_digit : MethodName := ⟨RX11, "digit", "(II)I"⟩
abbrev cX11_tenTo : ByteArray := prog_13_method_62_code
def yX11_tenTo : MethodName := ⟨RX11, "tenTo", "(I)I"⟩
abbrev cX11_leastTake : ByteArray := prog_13_method_63_code
def yX11_leastTake : MethodName := ⟨RX11, "leastTake", "(II)I"⟩
abbrev cX11_chalk : ByteArray := prog_13_method_64_code
def yX11_chalk : MethodName := ⟨RX11, "chalk", "(III)I"⟩
abbrev cX11_lowest : ByteArray := prog_13_method_65_code
def yX11_lowest : MethodName := ⟨RX11, "lowest", "(JJI)J"⟩
abbrev cX11_power : ByteArray := prog_13_method_66_code
def yX11_power : MethodName := ⟨RX11, "power", "(JI)J"⟩
abbrev cX11_findChance : ByteArray := prog_13_method_67_code
def yX11_findChance : MethodName := ⟨RX11, "findChance", "(IIII)V"⟩
abbrev cX11_match : ByteArray := prog_13_method_68_code
def yX11_match : MethodName := ⟨RX11, "match", "(IIIIII)J"⟩
abbrev cX11_actBy : ByteArray := prog_13_method_69_code
def yX11_actBy : MethodName := ⟨RX11, "actBy", "(I)I"⟩
abbrev cX11_season : ByteArray := prog_13_method_70_code
def yX11_season : MethodName := ⟨RX11, "season", "(III)I"⟩
abbrev cX11_pass : ByteArray := prog_13_method_71_code
def yX11_pass : MethodName := ⟨RX11, "pass", "(I)I"⟩
abbrev cX11_passRow : ByteArray := prog_13_method_72_code
def yX11_passRow : MethodName := ⟨RX11, "passRow", "([II)V"⟩
abbrev cX11_passAll : ByteArray := prog_13_method_73_code
def yX11_passAll : MethodName := ⟨RX11, "passAll", "()V"⟩
abbrev cX11_image : ByteArray := prog_13_method_74_code
def yX11_image : MethodName := ⟨RX11, "image", "(I)I"⟩
abbrev cX11_restore : ByteArray := prog_13_method_75_code
def yX11_restore : MethodName := ⟨RX11, "restore", "(I)I"⟩
abbrev cX11_told : ByteArray := prog_13_method_76_code
def yX11_told : MethodName := ⟨RX11, "told", "(I)I"⟩
def RJ13 : String := "java/lang/Long"
def TJ13 : u_T := fun k => match k with
  | _ => ("", "", "", false)
def tyJ13 : Nat → FieldType := fun k => match k with
  | _ => .int
abbrev cJ13_bitCount_95d88 : ByteArray := prog_14_method_50_code
def yJ13_bitCount_95d88 : MethodName := ⟨RJ13, "bitCount", "(J)I"⟩
def RJ9 : String := "java/lang/Math"
def TJ9 : u_T := fun k => match k with
  | _ => ("", "", "", false)
def tyJ9 : Nat → FieldType := fun k => match k with
  | _ => .int
abbrev cJ9_floorMod_7cf53 : ByteArray := prog_15_method_50_code
def yJ9_floorMod_7cf53 : MethodName := ⟨RJ9, "floorMod", "(II)I"⟩
abbrev cJ9_max_7cf53 : ByteArray := prog_15_method_65_code
def yJ9_max_7cf53 : MethodName := ⟨RJ9, "max", "(II)I"⟩
abbrev cJ9_max_f86c9 : ByteArray := prog_15_method_66_code
def yJ9_max_f86c9 : MethodName := ⟨RJ9, "max", "(JJ)J"⟩
def RL : String := "BaizeCorpsLaw"
abbrev cL_law : ByteArray := code
def yL_law : MethodName := ⟨RL, "law", "([I)Z"⟩
abbrev vwCl : List vw_C := [(RX0, TX0, 2), (RX1, TX1, 3), (RX3, TX3, 2), (RX4, TX4, 3), (RX5, TX5, 7), (RX6, TX6, 4), (RX7, TX7, 3), (RX8, TX8, 8), (RX9, TX9, 5), (RX10, TX10, 8), (RX11, TX11, 42)]
end
section
/-! THE SMALL MACHINE: a pure reading of the bytecode over a fixed stock of objects, and that the kit's machine follows it -/
-- stores: the int fields and elements, the long fields and elements, by object and place
abbrev bz_S : Type := (Nat → Nat → Int32) × (Nat → Nat → Int64)
-- the script: what it holds, how long it is
abbrev bz_X : Type := (Nat → Int32) × Nat
-- a place: pc, locals, stack, store
abbrev bz_A : Type := Nat × List (Option Value) × List Value × bz_S
abbrev bz_Op : Type := bz_X → Nat → List (Option Value) → List Value → bz_S → Option (Option Prop × bz_A)
-- a row of a method: its pc, and an operation, or a call (of which, with how many words, the receiver's class and 1, or 0), or an answer (0 none, 1 int, 2 long, 3 boolean)
abbrev bz_E : Type := Nat × (bz_Op ⊕ (Nat × Nat × Nat) ⊕ Nat)
-- the stock: (0, number of its class, where its reference fields lead) or (1, kind of array, [length ..])
abbrev bz_Sh : Type := Nat × Nat × List Nat
def bz_up {α : Type} (f : Nat → Nat → α) (o k : Nat) (x : α) : Nat → Nat → α := fun o' k' => if o' = o ∧ k' = k then x else f o' k'
theorem bz_up_s {α : Type} {f : Nat → Nat → α} {o k : Nat} {x : α} : bz_up f o k x o k = x := by simp [bz_up]
theorem bz_up_o {α : Type} {f : Nat → Nat → α} {o k o' k' : Nat} {x : α} (h : o' ≠ o) : bz_up f o k x o' k' = f o' k' := by simp [bz_up, h]
theorem bz_up_k {α : Type} {f : Nat → Nat → α} {o k o' k' : Nat} {x : α} (h : k' ≠ k) : bz_up f o k x o' k' = f o' k' := by simp [bz_up, h]
-- kinds of the fields of each class: 0 int, 1 long, 2 reference, 3 boolean
def bz_fk : Nat → List Nat
  | 0 => [2, 3]
  | 1 => [2, 2, 3]
  | 2 => [2, 0]
  | 3 => [2, 2, 0]
  | 4 => [0, 0, 0, 0, 0, 0, 0]
  | 5 => [2, 0, 0, 0]
  | 6 => [2, 0, 1]
  | 7 => [2, 2, 0, 0, 0, 0, 0, 0]
  | 8 => [2, 0, 0, 0, 2]
  | 9 => [2, 2, 2, 2, 2, 2, 2, 2]
  | 10 => [2, 0, 0, 0, 2, 2, 0, 2, 0, 2, 2, 2, 2, 0, 0, 0, 0, 0, 0, 0, 0, 0, 0, 0, 0, 2, 2, 0, 0, 0, 2, 2, 2, 2, 0, 2, 2, 2, 2, 2, 0, 3]
  | _ => []
def bz_sh : List bz_Sh := [(0, 9, [1, 3, 6, 8, 12, 14, 17, 19]),
  (0, 5, [2]), (1, 0, [3]), (0, 3, [4, 5]), (1, 0, [8]), (1, 0, [8]), (0, 2, [7]), (1, 0, [60]),
  (0, 7, [9, 11]), (0, 5, [10]), (1, 0, [3]), (0, 4, []), (0, 6, [13]), (1, 0, [16]), (0, 8, [15, 0, 0, 0, 16]), (1, 0, [360]), (1, 0, [720]),
  (0, 0, [18]), (1, 0, [100]), (1, 3, [2, 20, 26]),
  (0, 1, [21, 23]), (0, 5, [22]), (1, 0, [3]), (0, 3, [24, 25]), (1, 0, [8]), (1, 0, [8]),
  (0, 1, [27, 29]), (0, 5, [28]), (1, 0, [3]), (0, 3, [30, 31]), (1, 0, [8]), (1, 0, [8]),
  (0, 10, [33, 0, 0, 0, 34, 35, 0, 36, 0, 37, 38, 39, 40, 0, 0, 0, 0, 0, 0, 0, 0, 0, 0, 0, 0, 41, 42, 0, 0, 0, 43, 44, 45, 46, 0, 47, 48, 49, 50, 51]),
  (1, 0, [3]), (1, 0, [8]), (1, 0, [8]), (1, 0, [60]), (1, 0, [60]), (1, 0, [60]), (1, 0, [60]), (1, 0, [60]), (1, 0, [3]), (1, 0, [6]), (1, 2, [45]), (1, 0, [45]),
  (1, 0, [360]), (1, 0, [360]), (1, 0, [45]), (1, 2, [2000]), (1, 1, [81]), (1, 0, [60]), (1, 2, [2])]
-- the static tables and the script: 1000 first cells, 1001 row steps, 1002 column steps, 1003 the script
def bz_tn (X : bz_X) : Nat → Nat
  | 0 => 3
  | 1 => 8
  | 2 => 8
  | _ => X.2
def bz_tv (X : bz_X) : Nat → Nat → Int32
  | 0 => fun k => [(10 : Int32), 16, 24].getD k 0
  | 1 => fun k => [(-1 : Int32), -1, 0, 1, 1, 1, 0, -1].getD k 0
  | 2 => fun k => [(0 : Int32), 1, 1, 1, 0, -1, -1, -1].getD k 0
  | _ => X.1
def bz_isO (o ci : Nat) : Bool := match bz_sh[o]? with
  | some (0, c, _) => Nat.beq c ci
  | _ => false
def bz_isA (o ty : Nat) : Option Nat := match bz_sh[o]? with
  | some (1, t, n :: _) => bif Nat.beq t ty then some n else none
  | _ => none
def bz_ref (o k : Nat) : Nat := match bz_sh[o]? with
  | some (0, _, r) => r.getD k 0
  | some (_, _, _ :: r) => r.getD k 0
  | _ => 0
-- ===== operations =====
def bz_push (v : Value) (len : Nat) : bz_Op := fun _ pc L st σ => some (none, pc + len, L, v :: st, σ)
def bz_iload (i len : Nat) : bz_Op := fun _ pc L st σ => match L[i]? with
  | some (some (.int x)) => some (none, pc + len, L, .int x :: st, σ)
  | _ => none
def bz_lload (i len : Nat) : bz_Op := fun _ pc L st σ => match L[i]? with
  | some (some (.long x)) => some (none, pc + len, L, .long x :: st, σ)
  | _ => none
def bz_aload (i len : Nat) : bz_Op := fun _ pc L st σ => match L[i]? with
  | some (some (.ref x)) => some (none, pc + len, L, .ref x :: st, σ)
  | _ => none
def bz_kl (L : List (Option Value)) (i : Nat) : List (Option Value) := match i with
  | 0 => L
  | j + 1 => match L[j]? with
    | some (some (.long _)) => L.set j none
    | some (some (.double _)) => L.set j none
    | _ => L
def bz_istore (i len : Nat) : bz_Op := fun _ pc L st σ => match st with
  | .int x :: r => bif Nat.blt i L.length then some (none, pc + len, (bz_kl L i).set i (some (.int x)), r, σ) else none
  | _ => none
def bz_lstore (i len : Nat) : bz_Op := fun _ pc L st σ => match st with
  | .long x :: r => bif Nat.blt (i + 1) L.length then some (none, pc + len, ((bz_kl L i).set i (some (.long x))).set (i + 1) none, r, σ) else none
  | _ => none
def bz_iinc (i : Nat) (n : Int32) : bz_Op := fun _ pc L st σ => match L[i]? with
  | some (some (.int x)) => some (none, pc + 3, L.set i (some (.int (x + n))), st, σ)
  | _ => none
def bz_ii (f : Int32 → Int32 → Int32) : bz_Op := fun _ pc L st σ => match st with
  | .int y :: .int x :: r => some (none, pc + 1, L, .int (f x y) :: r, σ)
  | _ => none
def bz_ig (f : Int32 → Int32 → Int32) : bz_Op := fun _ pc L st σ => match st with
  | .int y :: .int x :: r => some (some (¬ y = 0), pc + 1, L, .int (f x y) :: r, σ)
  | _ => none
def bz_ll (f : Int64 → Int64 → Int64) : bz_Op := fun _ pc L st σ => match st with
  | .long y :: .long x :: r => some (none, pc + 1, L, .long (f x y) :: r, σ)
  | _ => none
def bz_lg (f : Int64 → Int64 → Int64) : bz_Op := fun _ pc L st σ => match st with
  | .long y :: .long x :: r => some (some (¬ y = 0), pc + 1, L, .long (f x y) :: r, σ)
  | _ => none
def bz_li (f : Int64 → Int32 → Int64) : bz_Op := fun _ pc L st σ => match st with
  | .int y :: .long x :: r => some (none, pc + 1, L, .long (f x y) :: r, σ)
  | _ => none
def bz_i2l : bz_Op := fun _ pc L st σ => match st with
  | .int x :: r => some (none, pc + 1, L, .long x.toInt64 :: r, σ)
  | _ => none
def bz_l2i : bz_Op := fun _ pc L st σ => match st with
  | .long x :: r => some (none, pc + 1, L, .int x.toInt32 :: r, σ)
  | _ => none
def bz_lcmp : bz_Op := fun _ pc L st σ => match st with
  | .long y :: .long x :: r => some (none, pc + 1, L, .int (lg_cmp x y) :: r, σ)
  | _ => none
def bz_dup : bz_Op := fun _ pc L st σ => match st with
  | .int x :: r => some (none, pc + 1, L, .int x :: .int x :: r, σ)
  | .ref x :: r => some (none, pc + 1, L, .ref x :: .ref x :: r, σ)
  | _ => none
def bz_pop1 : bz_Op := fun _ pc L st σ => match st with
  | .int _ :: r => some (none, pc + 1, L, r, σ)
  | _ => none
def bz_dup2 : bz_Op := fun _ pc L st σ => match st with
  | .int x :: .ref y :: r => some (none, pc + 1, L, .int x :: .ref y :: .int x :: .ref y :: r, σ)
  | _ => none
def bz_goto (t : Nat) : bz_Op := fun _ _ L st σ => some (none, t, L, st, σ)
def bz_ifi (f : Int32 → Prop) (d : ∀ x, Decidable (f x)) (t : Nat) : bz_Op := fun _ pc L st σ => match st with
  | .int x :: r => some (none, @ite _ (f x) (d x) (t, L, r, σ) (pc + 3, L, r, σ))
  | _ => none
def bz_icm (f : Int32 → Int32 → Prop) (d : ∀ x y, Decidable (f x y)) (t : Nat) : bz_Op := fun _ pc L st σ => match st with
  | .int y :: .int x :: r => some (none, @ite _ (f x y) (d x y) (t, L, r, σ) (pc + 3, L, r, σ))
  | _ => none
def bz_sw (x : Int) : List (Int × Nat) → Nat → Nat
  | [], d => d
  | (k, t) :: r, d => if x = k then t else bz_sw x r d
def bz_switch (cs : List (Int × Nat)) (d : Nat) : bz_Op := fun _ _ L st σ => match st with
  | .int x :: r => some (none, bz_sw x.toInt cs d, L, r, σ)
  | _ => none
def bz_getI (ci k : Nat) : bz_Op := fun _ pc L st σ => match st with
  | .ref o :: r => bif bz_isO o ci then some (none, pc + 3, L, .int (σ.1 o k) :: r, σ) else none
  | _ => none
def bz_getL (ci k : Nat) : bz_Op := fun _ pc L st σ => match st with
  | .ref o :: r => bif bz_isO o ci then some (none, pc + 3, L, .long (σ.2 o k) :: r, σ) else none
  | _ => none
def bz_getR (ci k : Nat) : bz_Op := fun _ pc L st σ => match st with
  | .ref o :: r => bif bz_isO o ci then some (none, pc + 3, L, .ref (bz_ref o k) :: r, σ) else none
  | _ => none
def bz_putI (ci k : Nat) : bz_Op := fun _ pc L st σ => match st with
  | .int x :: .ref o :: r => bif bz_isO o ci then some (none, pc + 3, L, r, (bz_up σ.1 o k x, σ.2)) else none
  | _ => none
def bz_putZ (ci k : Nat) : bz_Op := fun _ pc L st σ => match st with
  | .int x :: .ref o :: r => bif bz_isO o ci then some (some (x = 0 ∨ x = 1), pc + 3, L, r, (bz_up σ.1 o k x, σ.2)) else none
  | _ => none
def bz_putL (ci k : Nat) : bz_Op := fun _ pc L st σ => match st with
  | .long x :: .ref o :: r => bif bz_isO o ci then some (none, pc + 3, L, r, (σ.1, bz_up σ.2 o k x)) else none
  | _ => none
def bz_iald : bz_Op := fun X pc L st σ => match st with
  | .int i :: .ref o :: r => bif Nat.blt o 1000 then (match bz_isA o 0 with
    | some n => some (some (vp_in i n), pc + 1, L, .int (σ.1 o i.toNatClampNeg) :: r, σ)
    | none => none) else (bif Nat.blt o 1004 then some (some (vp_in i (bz_tn X (o - 1000))), pc + 1, L, .int (bz_tv X (o - 1000) i.toNatClampNeg) :: r, σ) else none)
  | _ => none
def bz_iast : bz_Op := fun _ pc L st σ => match st with
  | .int x :: .int i :: .ref o :: r => (match bz_isA o 0 with
    | some n => some (some (vp_in i n), pc + 1, L, r, (bz_up σ.1 o i.toNatClampNeg x, σ.2))
    | none => none)
  | _ => none
def bz_zald : bz_Op := fun _ pc L st σ => match st with
  | .int i :: .ref o :: r => (match bz_isA o 2 with
    | some n => some (some (vp_in i n), pc + 1, L, .int (σ.1 o i.toNatClampNeg) :: r, σ)
    | none => none)
  | _ => none
def bz_zast : bz_Op := fun _ pc L st σ => match st with
  | .int x :: .int i :: .ref o :: r => (match bz_isA o 2 with
    | some n => some (some (vp_in i n ∧ (x = 0 ∨ x = 1)), pc + 1, L, r, (bz_up σ.1 o i.toNatClampNeg x, σ.2))
    | none => none)
  | _ => none
def bz_lald : bz_Op := fun _ pc L st σ => match st with
  | .int i :: .ref o :: r => (match bz_isA o 1 with
    | some n => some (some (vp_in i n), pc + 1, L, .long (σ.2 o i.toNatClampNeg) :: r, σ)
    | none => none)
  | _ => none
def bz_last : bz_Op := fun _ pc L st σ => match st with
  | .long x :: .int i :: .ref o :: r => (match bz_isA o 1 with
    | some n => some (some (vp_in i n), pc + 1, L, r, (σ.1, bz_up σ.2 o i.toNatClampNeg x))
    | none => none)
  | _ => none
def bz_aald : bz_Op := fun _ pc L st σ => match st with
  | .int i :: .ref o :: r => (match bz_isA o 3 with
    | some n => some (some (vp_in i n), pc + 1, L, .ref (bz_ref o i.toNatClampNeg) :: r, σ)
    | none => none)
  | _ => none
def bz_slen : bz_Op := fun X pc L st σ => match st with
  | .ref o :: r => bif Nat.beq o 1003 then some (none, pc + 1, L, .int (nI X.2) :: r, σ) else none
  | _ => none
-- ===== runs =====
def bz_lk : List bz_E → Nat → Option (bz_Op ⊕ (Nat × Nat × Nat) ⊕ Nat)
  | [], _ => none
  | q :: r, pc => bif Nat.beq q.1 pc then some q.2 else bz_lk r pc
def bz_st1 (X : bz_X) (T : List bz_E) (a : bz_A) : Option (Option Prop × bz_A) := match bz_lk T a.1 with
  | some (.inl f) => f X a.1 a.2.1 a.2.2.1 a.2.2.2
  | _ => none
def bz_and (g : Option Prop) (G : Prop) : Prop := match g with
  | none => G
  | some p => p ∧ G
def bz_run (X : bz_X) (T : List bz_E) : Nat → bz_A → Option (Prop × bz_A)
  | 0, a => some (True, a)
  | n + 1, a => match bz_st1 X T a with
    | some (g, a') => match bz_run X T n a' with
      | some (G, b) => some (bz_and g G, b)
      | none => none
    | none => none
-- what an answer of a kind leaves
def bz_rv : Nat → List Value → Option (Option Value)
  | 0, [] => some none
  | 1, [.int x] => some (some (.int x))
  | 2, [.long x] => some (some (.long x))
  | 3, [.int x] => some (some (.int x))
  | _, _ => none
def bz_rg : Nat → List Value → Prop
  | 3, [.int x] => x = 0 ∨ x = 1
  | _, _ => True
-- a receiver of the class
def bz_rc (vk : Nat) (as : List Value) : Bool := match vk with
  | 0 => true
  | ci + 1 => match as with
    | .ref o :: _ => bz_isO o ci
    | _ => false
-- the locals at a method's start
def bz_in0 : List Value → List (Option Value)
  | [] => []
  | .long x :: r => some (.long x) :: none :: bz_in0 r
  | .double x :: r => some (.double x) :: none :: bz_in0 r
  | v :: r => some v :: bz_in0 r
def bz_in (n : Nat) (as : List Value) : List (Option Value) := bz_in0 as ++ List.replicate (n - (bz_in0 as).length) none
def bz_le : List (Option Value) → List (Option Value) → Prop
  | [], [] => True
  | none :: a, _ :: b => bz_le a b
  | some x :: a, some y :: b => x = y ∧ bz_le a b
  | _, _ => False
abbrev bz_Q : Type := Option Value → bz_S → Prop
-- a method: its class's name, its name, bytes, number of locals, answer, room (frames, locals), rows
abbrev bz_M : Type := String × MethodName × ByteArray × Nat × Option FieldType × Nat × Nat × List bz_E
def bz_cat (st : List Value) : Nat := (st.map fun v => v.category).sum
def bz_Cl (P : Nat → bz_M) (X : bz_X) (Z : Nat → bz_Q → bz_A → Prop) : Prop :=
  (∀ k Q a g b, bz_st1 X (P k).2.2.2.2.2.2.2 a = some (g, b) → bz_and g True → Z k Q b → Z k Q a) ∧
  (∀ k Q L L' pc st σ, bz_le L' L → Z k Q (pc, L', st, σ) → Z k Q (pc, L, st, σ)) ∧
  (∀ k Q pc L as rest σ j n vk Qc, bz_lk (P k).2.2.2.2.2.2.2 pc = some (.inr (.inl (j, n, vk))) → as.length = n → (bz_in0 as).length ≤ (P j).2.2.2.1 → bz_cat rest ≤ 8 → bz_rc vk as = true → Z j Qc (0, bz_in (P j).2.2.2.1 as, [], σ) → (∀ v σ', Qc v σ' → Z k Q (pc + 3, L, v.toList ++ rest, σ')) → Z k Q (pc, L, as.reverse ++ rest, σ)) ∧
  (∀ (k : Nat) (Q : bz_Q) pc L st σ j v, bz_lk (P k).2.2.2.2.2.2.2 pc = some (.inr (.inr j)) → bz_rv j st = some v → bz_rg j st → Q v σ → Z k Q (pc, L, st, σ)) ∧
  (∀ (k : Nat) (Q Q' : bz_Q) a, (∀ v σ, Q v σ → Q' v σ) → Z k Q a → Z k Q' a)
def bz_wp (P : Nat → bz_M) (X : bz_X) (k : Nat) (Q : bz_Q) (a : bz_A) : Prop := ∀ Z, bz_Cl P X Z → Z k Q a
section PW
variable {P : Nat → bz_M} {X : bz_X} {k : Nat} {Q : bz_Q}
theorem bz_wp1 {a b : bz_A} {g : Option Prop} (h : bz_st1 X (P k).2.2.2.2.2.2.2 a = some (g, b)) (hg : bz_and g True) (w : bz_wp P X k Q b) : bz_wp P X k Q a := fun Z hZ => hZ.1 k Q a g b h hg (w Z hZ)
theorem bz_and_1 {g : Option Prop} {G : Prop} (h : bz_and g G) : bz_and g True ∧ G := by
  cases g with
  | none => exact ⟨trivial, h⟩
  | some p => exact ⟨⟨h.1, trivial⟩, h.2⟩
theorem bz_wpn' (n : Nat) : ∀ {a b : bz_A} {G : Prop}, bz_run X (P k).2.2.2.2.2.2.2 n a = some (G, b) → G → bz_wp P X k Q b → bz_wp P X k Q a := by
  induction n with
  | zero =>
    intro a b G h hG w
    simp only [bz_run, Option.some.injEq, Prod.mk.injEq] at h
    rw [h.2]; exact w
  | succ n ih =>
    intro a b G h hG w
    simp only [bz_run] at h
    split at h
    · rename_i g a' h1
      split at h
      · rename_i G' b' h2
        simp only [Option.some.injEq, Prod.mk.injEq] at h
        obtain ⟨rfl, rfl⟩ := h
        obtain ⟨hg, hG'⟩ := bz_and_1 hG
        exact bz_wp1 h1 hg (ih h2 hG' w)
      · cases h
    · cases h
/-- n steps at once -/
theorem bz_wpn {T : List bz_E} (hT : (P k).2.2.2.2.2.2.2 = T) (n : Nat) {a b : bz_A} {G : Prop} (h : bz_run X T n a = some (G, b)) (hG : G) (w : bz_wp P X k Q b) : bz_wp P X k Q a := by
  subst hT; exact bz_wpn' n h hG w
/-- n steps, the last of them a branch -/
theorem bz_wpb {T : List bz_E} (hT : (P k).2.2.2.2.2.2.2 = T) (n : Nat) {a b1 b2 : bz_A} {G C : Prop} {d : Decidable C} (h : bz_run X T n a = some (G, @ite _ C d b1 b2)) (hG : G) (w1 : C → bz_wp P X k Q b1) (w2 : ¬ C → bz_wp P X k Q b2) : bz_wp P X k Q a := by
  refine bz_wpn hT n h hG ?_
  cases d with
  | isTrue hc => exact w1 hc
  | isFalse hc => exact w2 hc
theorem bz_wpw {L L' : List (Option Value)} {pc : Nat} {st : List Value} {σ : bz_S} (hl : bz_le L' L) (w : bz_wp P X k Q (pc, L', st, σ)) : bz_wp P X k Q (pc, L, st, σ) := fun Z hZ => hZ.2.1 k Q L L' pc st σ hl (w Z hZ)
theorem bz_wpc {T : List bz_E} (hT : (P k).2.2.2.2.2.2.2 = T) {pc : Nat} {L : List (Option Value)} {st rest : List Value} {σ : bz_S} {j n vk : Nat} (as : List Value) {Qc : bz_Q} (hl : bz_lk T pc = some (.inr (.inl (j, n, vk)))) (hn : as.length = n) (hm : (bz_in0 as).length ≤ (P j).2.2.2.1) (hst : st = as.reverse ++ rest) (hr : bz_cat rest ≤ 8) (hv : bz_rc vk as = true) (hc : bz_wp P X j Qc (0, bz_in (P j).2.2.2.1 as, [], σ)) (kk : ∀ v σ', Qc v σ' → bz_wp P X k Q (pc + 3, L, v.toList ++ rest, σ')) : bz_wp P X k Q (pc, L, st, σ) := by
  subst hT; subst hst
  exact fun Z hZ => hZ.2.2.1 k Q pc L as rest σ j n vk Qc hl hn hm hr hv (hc Z hZ) (fun v σ' hv => kk v σ' hv Z hZ)
theorem bz_wpr {T : List bz_E} (hT : (P k).2.2.2.2.2.2.2 = T) {pc : Nat} {L : List (Option Value)} {st : List Value} {σ : bz_S} {j : Nat} {v : Option Value} (hl : bz_lk T pc = some (.inr (.inr j))) (hv : bz_rv j st = some v) (hg : bz_rg j st) (hQ : Q v σ) : bz_wp P X k Q (pc, L, st, σ) := by
  subst hT
  exact fun Z hZ => hZ.2.2.2.1 k Q pc L st σ j v hl hv hg hQ
theorem bz_wpm {Q' : bz_Q} {a : bz_A} (w : bz_wp P X k Q a) (h : ∀ v σ, Q v σ → Q' v σ) : bz_wp P X k Q' a := fun Z hZ => hZ.2.2.2.2 k Q Q' a h (w Z hZ)
end PW
/-- a method's contract: started with these words, it ends with Q -/
def bz_C (P : Nat → bz_M) (X : bz_X) (k : Nat) (as : List Value) (σ : bz_S) (Q : bz_Q) : Prop := bz_wp P X k Q (0, bz_in (P k).2.2.2.1 as, [], σ)
end
section
/-! THE KIT'S MACHINE FOLLOWS THE SMALL MACHINE -/
def bz_cz (ad : Nat → Nat) : Value → Value
  | .ref o => .ref (ad o)
  | v => v
def bz_fv (ad : Nat → Nat) (σ : bz_S) (o : Nat) (ps : List Nat) (k kind : Nat) : Value := match kind with
  | 1 => .long (σ.2 o k)
  | 2 => .ref (ad (ps.getD k 0))
  | _ => .int (σ.1 o k)
def bz_cell (ad : Nat → Nat) (ca : Nat → ClassId) (σ : bz_S) (o : Nat) (sh : bz_Sh) : va_E := match sh with
  | (0, ci, ps) => .inr (ci, (List.range (bz_fk ci).length).map (fun k => bz_fv ad σ o ps k ((bz_fk ci).getD k 0)))
  | (_, 1, ns) => .inl (ca 1, ns.getD 0 0, .inr (.inl (σ.2 o)))
  | (_, 3, ns) => .inl (ca 3, ns.getD 0 0, .inr (.inr (.inr (.inr (fun k => some (ad (ns.getD (k + 1) 0)))))))
  | (_, t, ns) => .inl (ca t, ns.getD 0 0, .inl (σ.1 o))
def bz_W (ad : Nat → Nat) (ca : Nat → ClassId) (σ : bz_S) : va_W := bz_sh.mapIdx (fun o sh => (ad o, bz_cell ad ca σ o sh))
def bz_tys (ca : Nat → ClassId) : List (ClassId × FieldType) := [(ca 0, .int), (ca 1, .long), (ca 2, .boolean), (ca 3, .object "BaizeCorps$Image")]
def bz_lv (ad : Nat → Nat) (L : List (Option Value)) : List (Nat × Value) := (List.range L.length).filterMap (fun i => match L[i]? with
  | some (some v) => some (i, bz_cz ad v)
  | _ => none)
-- words
def bz_TB : List Cond := lw_tbl.filter goodWord
def bz_NB : List Cond := lw_tbl.filter (fun w => match w with
  | .methodLinkNest .. => true
  | .fieldLinkNest .. => true
  | _ => false)
def bz_sn : Nat → String
  | 0 => "FIRST_CELLS"
  | 1 => "ROW_STEPS"
  | _ => "COLUMN_STEPS"
theorem bz_cz_cat (ad : Nat → Nat) (v : Value) : (bz_cz ad v).category = v.category := by cases v <;> rfl
theorem bz_lv_mem {ad : Nat → Nat} {L : List (Option Value)} {q : Nat × Value} : q ∈ bz_lv ad L ↔ ∃ v, L[q.1]? = some (some v) ∧ q.2 = bz_cz ad v := by
  obtain ⟨i, w⟩ := q
  simp only [bz_lv, List.mem_filterMap, List.mem_range]
  constructor
  · rintro ⟨j, hj, h⟩
    split at h
    · rename_i v hv
      cases h
      exact ⟨v, hv, rfl⟩
    · cases h
  · rintro ⟨v, hv, rfl⟩
    have hl := (List.getElem?_eq_some_iff.mp hv).1
    exact ⟨i, hl, by rw [hv]⟩
theorem bz_lv_mono {ls : Array Slot} {n : Nat} {l l' : List (Nat × Value)} (h : lv_has ls n l) (hs : ∀ q ∈ l', q ∈ l) : lv_has ls n l' := ⟨h.1, h.2.1, fun q hq => h.2.2 q (hs q hq)⟩
theorem bz_lv_at {ad : Nat → Nat} {L : List (Option Value)} {ls : Array Slot} {n i : Nat} {v : Value} (h : lv_has ls n (bz_lv ad L)) (hv : L[i]? = some (some v)) : ls[i]? = some (.val (bz_cz ad v)) := h.2.2 (i, bz_cz ad v) (bz_lv_mem.mpr ⟨v, hv, rfl⟩)
theorem bz_le_mem : ∀ {L' L : List (Option Value)}, bz_le L' L → ∀ (i : Nat) (v : Value), L'[i]? = some (some v) → L[i]? = some (some v)
  | [], [], _, i, v, h => by simp at h
  | none :: a, y :: b, hl, i, v, h => by
    cases i with
    | zero => simp at h
    | succ i => simpa using bz_le_mem (L' := a) (L := b) hl i v (by simpa using h)
  | some x :: a, some y :: b, hl, i, v, h => by
    obtain ⟨rfl, hl⟩ := hl
    cases i with
    | zero => exact h
    | succ i => simpa using bz_le_mem (L' := a) (L := b) hl i v (by simpa using h)
  | some x :: a, none :: b, hl, _, _, _ => hl.elim
  | none :: a, [], hl, _, _, _ => hl.elim
  | some x :: a, [], hl, _, _, _ => hl.elim
  | [], y :: b, hl, _, _, _ => hl.elim
theorem bz_kl_mem {L : List (Option Value)} {i j : Nat} {v : Value} (h : (bz_kl L i)[j]? = some (some v)) : L[j]? = some (some v) ∧ ¬ (j + 1 = i ∧ v.category = 2) := by
  have key : ∀ (i' : Nat) (w : Value), L[i']? = some (some w) → (L.set i' none)[j]? = some (some v) → L[j]? = some (some v) ∧ ¬ (j + 1 = i' + 1 ∧ v.category = 2) := by
    intro i' w hL h
    by_cases hj : j = i'
    · subst hj
      rw [List.getElem?_set_self (List.getElem?_eq_some_iff.mp hL).1] at h
      cases h
    · rw [List.getElem?_set_ne (Ne.symm hj)] at h
      exact ⟨h, fun z => hj (by omega)⟩
  cases i with
  | zero => exact ⟨h, fun z => by omega⟩
  | succ i =>
    simp only [bz_kl] at h
    split at h
    · rename_i x hL
      exact key i _ hL h
    · rename_i x hL
      exact key i _ hL h
    · rename_i hn1 hn2
      refine ⟨h, fun z => ?_⟩
      have hj : j = i := by omega
      subst hj
      cases v with
      | long x => exact hn1 x h
      | double x => exact hn2 x h
      | _ => simp [Value.category] at z
theorem bz_kl_len (L : List (Option Value)) (i : Nat) : (bz_kl L i).length = L.length := by
  cases i with
  | zero => rfl
  | succ i =>
    simp only [bz_kl]
    split <;> simp

theorem bz_W_at {ad : Nat → Nat} {ca : Nat → ClassId} {σ : bz_S} {o : Nat} {sh : bz_Sh} (h : bz_sh[o]? = some sh) : (bz_W ad ca σ)[o]? = some (ad o, bz_cell ad ca σ o sh) := by
  simp [bz_W, List.getElem?_mapIdx, h]
theorem bz_isO_sp {o ci : Nat} (h : bz_isO o ci = true) : ∃ ps, bz_sh[o]? = some (0, ci, ps) := by
  unfold bz_isO at h
  split at h
  · rename_i c ps hs
    have : c = ci := Nat.eq_of_beq_eq_true h
    subst this
    exact ⟨ps, hs⟩
  · cases h
theorem bz_isA_sp {o t n : Nat} (h : bz_isA o t = some n) : ∃ r, bz_sh[o]? = some (1, t, n :: r) := by
  unfold bz_isA at h
  split at h
  · rename_i t' n' r hs
    cases hb : Nat.beq t' t with
    | true =>
      rw [hb] at h
      have : t' = t := Nat.eq_of_beq_eq_true hb
      subst this
      cases h
      exact ⟨r, hs⟩
    | false => rw [hb] at h; cases h
  · cases h
theorem bz_fv_congr {ad : Nat → Nat} {σ σ' : bz_S} {o k kind : Nat} {ps : List Nat} (h1 : ∀ j, σ'.1 o j = σ.1 o j) (h2 : ∀ j, σ'.2 o j = σ.2 o j) : bz_fv ad σ' o ps k kind = bz_fv ad σ o ps k kind := by
  unfold bz_fv
  split
  · rw [h2]
  · rfl
  · rw [h1]
theorem bz_cell_congr {ad : Nat → Nat} {ca : Nat → ClassId} {σ σ' : bz_S} {o : Nat} (sh : bz_Sh) (h1 : ∀ j, σ'.1 o j = σ.1 o j) (h2 : ∀ j, σ'.2 o j = σ.2 o j) : bz_cell ad ca σ' o sh = bz_cell ad ca σ o sh := by
  have e1 : σ'.1 o = σ.1 o := funext h1
  have e2 : σ'.2 o = σ.2 o := funext h2
  unfold bz_cell
  split
  · simp only [bz_fv_congr h1 h2]
  · rw [e2]
  · rfl
  · rw [e1]
/-- a world with one cell changed -/
theorem bz_W_set {ad : Nat → Nat} {ca : Nat → ClassId} {σ σ' : bz_S} {o : Nat} {sh : bz_Sh} {e : va_E} (hs : bz_sh[o]? = some sh) (he : e = bz_cell ad ca σ' o sh) (ho : ∀ q, q ≠ o → ∀ j, σ'.1 q j = σ.1 q j ∧ σ'.2 q j = σ.2 q j) : (bz_W ad ca σ).set o (ad o, e) = bz_W ad ca σ' := by
  subst he
  apply List.ext_getElem?
  intro i
  by_cases hi : i = o
  · subst hi
    have hl : i < (bz_W ad ca σ).length := (List.getElem?_eq_some_iff.mp (bz_W_at (ad := ad) (ca := ca) (σ := σ) hs)).1
    rw [List.getElem?_set_self hl, bz_W_at hs]
  · rw [List.getElem?_set_ne (Ne.symm hi)]
    simp only [bz_W, List.getElem?_mapIdx]
    cases hq : bz_sh[i]? with
    | none => rfl
    | some sh' =>
      simp only [Option.map_some]
      rw [bz_cell_congr sh' (fun j => (ho i hi j).1) (fun j => (ho i hi j).2)]
/-- an object's fields with one of them changed -/
theorem bz_fs_set {ad : Nat → Nat} {σ σ' : bz_S} {o k n : Nat} {ps : List Nat} {kd : List Nat} {v : Value} (hv : bz_fv ad σ' o ps k (kd.getD k 0) = v) (h : ∀ j, j ≠ k → σ'.1 o j = σ.1 o j ∧ σ'.2 o j = σ.2 o j) : ((List.range n).map (fun j => bz_fv ad σ o ps j (kd.getD j 0))).set k v = (List.range n).map (fun j => bz_fv ad σ' o ps j (kd.getD j 0)) := by
  apply List.ext_getElem?
  intro i
  by_cases hi : i = k
  · subst hi
    by_cases hl : i < n
    · rw [List.getElem?_set_self (by simpa using hl), List.getElem?_map, List.getElem?_range hl, Option.map_some, hv]
    · rw [List.getElem?_eq_none (by simp; omega), List.getElem?_eq_none (by simp; omega)]
  · rw [List.getElem?_set_ne (Ne.symm hi)]
    simp only [List.getElem?_map]
    by_cases hl : i < n
    · have : bz_fv ad σ' o ps i (kd.getD i 0) = bz_fv ad σ o ps i (kd.getD i 0) := by
        unfold bz_fv
        split
        · rw [(h i hi).2]
        · rfl
        · rw [(h i hi).1]
      rw [List.getElem?_range hl, Option.map_some, Option.map_some, this]
    · simp [hl]

def bz_R (p : Program) (l : Launch) (e : Env) (R : Room) (s : State) (m : MethodId) (args : Array Value) (below : List Frame) (meth : Method) (c : Code) (Qf : State → Prop) (A : Nat → Prop) (ad : Nat → Nat) (ca : Nat → ClassId) (D : va_G) (cells slots nL : Nat) (a : bz_A) : Prop := a.2.1.length = nL → ∀ (H : Heap) (locs : List Loc) (ls : Array Slot), va_P D vwCl (bz_W ad ca a.2.2.2) H → va_D A (bz_W ad ca a.2.2.2) → va_S A s.heap H locs → lv_has ls nL (bz_lv ad a.2.1) → W p l e R s m args below meth c H locs cells slots Qf (F0 m a.1 ls (a.2.2.1.map (bz_cz ad)))
def bz_F (X : bz_X) (own : String) (bytes : ByteArray) (p : Program) (l : Launch) (e : Env) (R : Room) (s : State) (m : MethodId) (args : Array Value) (below : List Frame) (meth : Method) (c : Code) (Qf : State → Prop) (A : Nat → Prop) (ad : Nat → Nat) (ca : Nat → ClassId) (D : va_G) (cells slots nL : Nat) : Prop := p.tables.exec = Jvm.exec ∧ c.code = bytes ∧ c.maxLocals = nL ∧ s.vm.findClass own = some m.cls ∧ (∀ w ∈ bz_TB, w.before args s = true) ∧ (∀ w ∈ bz_NB, va_Nw w s) ∧ va_K D vwCl (bz_tys ca) s ∧ (∀ q : Nat, s.heap.size ≤ q → A q) ∧ (∀ i, i < 3 → va_Z "BaizeCorps" (bz_sn i) "[I" (.ref (ad (1000 + i))) A s s.heap) ∧ (∀ i, i < 4 → va_T .int (ad (1000 + i)) (bz_tn X i) (fun j => .int (bz_tv X i j)) A s s.heap) ∧ cells ≤ R.cells ∧ slots ≤ R.slots
def bz_ok (own : String) (bytes : ByteArray) (pc : Nat) (f : bz_Op) : Prop := ∀ (X : bz_X) (p : Program) (l : Launch) (e : Env) (R : Room) (s : State) (m : MethodId) (args : Array Value) (below : List Frame) (meth : Method) (c : Code) (Qf : State → Prop) (A : Nat → Prop) (ad : Nat → Nat) (ca : Nat → ClassId) (D : va_G) (cells slots nL : Nat), bz_F X own bytes p l e R s m args below meth c Qf A ad ca D cells slots nL → ∀ (L : List (Option Value)) (st : List Value) (σ : bz_S) (g : Option Prop) (b : bz_A), f X pc L st σ = some (g, b) → bz_and g True → bz_R p l e R s m args below meth c Qf A ad ca D cells slots nL b → bz_R p l e R s m args below meth c Qf A ad ca D cells slots nL (pc, L, st, σ)
theorem bz_lrem_eq (x y : Int64) : x - (x / y) * y = x % y := by
  apply Int64.toInt_inj.mp
  have h1 := Int64.le_toInt (x % y)
  have h2 := Int64.toInt_lt (x % y)
  rw [Int64.toInt_sub, Int64.toInt_mul, Int64.toInt_div, Int.bmod_mul_bmod, Int.sub_bmod_bmod, Int.mul_comm (x.toInt.tdiv y.toInt), ← Int.tmod_def, ← Int64.toInt_mod]
  exact Int.bmod_eq_of_le_mul_two (by omega) (by omega)
theorem bz_o1000 (o : Nat) (h1 : ¬ o < 1000) (h2 : o < 1004) : ∃ j, j < 4 ∧ o = 1000 + j := ⟨o - 1000, by omega, by omega⟩
section OK
variable {own : String} {bytes : ByteArray} {pc : Nat}

theorem bz_st1_mem {ad : Nat → Nat} {L : List (Option Value)} {i : Nat} {x : Int32} (hi : i < L.length) : ∀ q ∈ bz_lv ad ((bz_kl L i).set i (some (.int x))), q ∈ (i, Value.int x) :: (bz_lv ad L).filter (fun q => !(q.1 == i) && !(q.1 + 1 == i && q.2.category == 2)) := by
  rintro ⟨j, w⟩ hq
  obtain ⟨v, hv, hw⟩ := bz_lv_mem.mp hq
  dsimp only at hv hw
  subst hw
  by_cases hj : j = i
  · subst hj
    rw [List.getElem?_set_self (by rw [bz_kl_len]; exact hi)] at hv
    cases hv
    exact List.mem_cons_self
  · rw [List.getElem?_set_ne (Ne.symm hj)] at hv
    obtain ⟨h1, h2⟩ := bz_kl_mem hv
    refine List.mem_cons_of_mem _ (List.mem_filter.mpr ⟨bz_lv_mem.mpr ⟨v, h1, rfl⟩, ?_⟩)
    have h3 : ¬ (j + 1 = i ∧ (bz_cz ad v).category = 2) := by rw [bz_cz_cat]; exact h2
    simp only [Bool.and_eq_true, Bool.not_eq_true', beq_eq_false_iff_ne, ne_eq, Bool.and_eq_false_iff]
    refine ⟨hj, ?_⟩
    by_cases h4 : j + 1 = i
    · exact Or.inr (fun z => h3 ⟨h4, z⟩)
    · exact Or.inl h4
theorem bz_st2_mem {ad : Nat → Nat} {L : List (Option Value)} {i : Nat} {x : Int64} (hi : i + 1 < L.length) : ∀ q ∈ bz_lv ad (((bz_kl L i).set i (some (.long x))).set (i + 1) none), q ∈ (i, Value.long x) :: (bz_lv ad L).filter (fun q => !(q.1 == i) && (!(q.1 == i + 1) && !(q.1 + 1 == i && q.2.category == 2))) := by
  rintro ⟨j, w⟩ hq
  obtain ⟨v, hv, hw⟩ := bz_lv_mem.mp hq
  dsimp only at hv hw
  subst hw
  by_cases hj1 : j = i + 1
  · subst hj1
    rw [List.getElem?_set_self (by simp [bz_kl_len]; exact hi)] at hv
    cases hv
  · rw [List.getElem?_set_ne (Ne.symm hj1)] at hv
    by_cases hj : j = i
    · subst hj
      rw [List.getElem?_set_self (by rw [bz_kl_len]; omega)] at hv
      cases hv
      exact List.mem_cons_self
    · rw [List.getElem?_set_ne (Ne.symm hj)] at hv
      obtain ⟨h1, h2⟩ := bz_kl_mem hv
      refine List.mem_cons_of_mem _ (List.mem_filter.mpr ⟨bz_lv_mem.mpr ⟨v, h1, rfl⟩, ?_⟩)
      have h3 : ¬ (j + 1 = i ∧ (bz_cz ad v).category = 2) := by rw [bz_cz_cat]; exact h2
      simp only [Bool.and_eq_true, Bool.not_eq_true', beq_eq_false_iff_ne, ne_eq, Bool.and_eq_false_iff]
      refine ⟨hj, hj1, ?_⟩
      by_cases h4 : j + 1 = i
      · exact Or.inr (fun z => h3 ⟨h4, z⟩)
      · exact Or.inl h4
theorem bz_o_iconst {n : Int} {v : Int32} (hd : decode bytes pc = .ok (.iconst n, 1)) (hv : Int32.ofInt n = v) : bz_ok own bytes pc (bz_push (.int v) 1) := by
  intro X p l e R s m args below meth c Qf A ad ca D cells slots nL F L st σ g b h hg kk hn H locs ls hP hD hS hl
  obtain ⟨hx, hb, hml, hown, hts, hnw, hK, hA, hZ, hT, hce, hsl⟩ := F
  simp only [bz_push, Option.some.injEq, Prod.mk.injEq] at h
  obtain ⟨rfl, rfl⟩ := h
  exact lv_iconst hx hb hd hv (kk hn H locs ls hP hD hS hl)
theorem bz_o_bipush {n : Int} {v : Int32} (hd : decode bytes pc = .ok (.bipush n, 2)) (hv : (Int8.ofInt n).toInt32 = v) : bz_ok own bytes pc (bz_push (.int v) 2) := by
  intro X p l e R s m args below meth c Qf A ad ca D cells slots nL F L st σ g b h hg kk hn H locs ls hP hD hS hl
  obtain ⟨hx, hb, hml, hown, hts, hnw, hK, hA, hZ, hT, hce, hsl⟩ := F
  simp only [bz_push, Option.some.injEq, Prod.mk.injEq] at h
  obtain ⟨rfl, rfl⟩ := h
  exact lv_bipush hx hb hd hv (kk hn H locs ls hP hD hS hl)
theorem bz_o_sipush {n : Int} {v : Int32} (hd : decode bytes pc = .ok (.sipush n, 3)) (hv : (Int16.ofInt n).toInt32 = v) : bz_ok own bytes pc (bz_push (.int v) 3) := by
  intro X p l e R s m args below meth c Qf A ad ca D cells slots nL F L st σ g b h hg kk hn H locs ls hP hD hS hl
  obtain ⟨hx, hb, hml, hown, hts, hnw, hK, hA, hZ, hT, hce, hsl⟩ := F
  simp only [bz_push, Option.some.injEq, Prod.mk.injEq] at h
  obtain ⟨rfl, rfl⟩ := h
  exact lv_sipush hx hb hd hv (kk hn H locs ls hP hD hS hl)
theorem bz_o_lconst {n : Fin 2} {v : Int64} (hd : decode bytes pc = .ok (.lconst n, 1)) (hv : Int64.ofNat (n : Nat) = v) : bz_ok own bytes pc (bz_push (.long v) 1) := by
  intro X p l e R s m args below meth c Qf A ad ca D cells slots nL F L st σ g b h hg kk hn H locs ls hP hD hS hl
  obtain ⟨hx, hb, hml, hown, hts, hnw, hK, hA, hZ, hT, hce, hsl⟩ := F
  simp only [bz_push, Option.some.injEq, Prod.mk.injEq] at h
  obtain ⟨rfl, rfl⟩ := h
  exact lv_lconst hx hb hd hv (kk hn H locs ls hP hD hS hl)
theorem bz_o_ldc {i : Nat} {v : Int32} (hd : decode bytes pc = .ok (.ldc i, 2)) (hw : Cond.constant own i v ∈ bz_TB) : bz_ok own bytes pc (bz_push (.int v) 2) := by
  intro X p l e R s m args below meth c Qf A ad ca D cells slots nL F L st σ g b h hg kk hn H locs ls hP hD hS hl
  obtain ⟨hx, hb, hml, hown, hts, hnw, hK, hA, hZ, hT, hce, hsl⟩ := F
  simp only [bz_push, Option.some.injEq, Prod.mk.injEq] at h
  obtain ⟨rfl, rfl⟩ := h
  exact lv_ldc hx hb hown (hts _ hw) hd (kk hn H locs ls hP hD hS hl)
theorem bz_o_ldc2 {i : Nat} {v : Int64} (hd : decode bytes pc = .ok (.ldc2_w i, 3)) (hw : Cond.constantLong own i v ∈ bz_TB) : bz_ok own bytes pc (bz_push (.long v) 3) := by
  intro X p l e R s m args below meth c Qf A ad ca D cells slots nL F L st σ g b h hg kk hn H locs ls hP hD hS hl
  obtain ⟨hx, hb, hml, hown, hts, hnw, hK, hA, hZ, hT, hce, hsl⟩ := F
  simp only [bz_push, Option.some.injEq, Prod.mk.injEq] at h
  obtain ⟨rfl, rfl⟩ := h
  exact lv_ldc2 hx hb hown (hts _ hw) hd (kk hn H locs ls hP hD hS hl)
theorem bz_o_iload_n {k : Fin 4} {i : Nat} (hd : decode bytes pc = .ok (.iload_n k, 1)) (hi : (k : Nat) = i) : bz_ok own bytes pc (bz_iload i 1) := by
  intro X p l e R s m args below meth c Qf A ad ca D cells slots nL F L st σ g b h hg kk hn H locs ls hP hD hS hl
  obtain ⟨hx, hb, hml, hown, hts, hnw, hK, hA, hZ, hT, hce, hsl⟩ := F
  simp only [bz_iload] at h
  split at h
  · rename_i x hx1
    simp only [Option.some.injEq, Prod.mk.injEq] at h
    obtain ⟨rfl, rfl⟩ := h
    exact lv_iload_n hx hb hd hi (bz_lv_at hl hx1) (kk hn H locs ls hP hD hS hl)
  · cases h
theorem bz_o_iload {i : Nat} (hd : decode bytes pc = .ok (.iload i, 2)) : bz_ok own bytes pc (bz_iload i 2) := by
  intro X p l e R s m args below meth c Qf A ad ca D cells slots nL F L st σ g b h hg kk hn H locs ls hP hD hS hl
  obtain ⟨hx, hb, hml, hown, hts, hnw, hK, hA, hZ, hT, hce, hsl⟩ := F
  simp only [bz_iload] at h
  split at h
  · rename_i x hx1
    simp only [Option.some.injEq, Prod.mk.injEq] at h
    obtain ⟨rfl, rfl⟩ := h
    exact lv_iload hx hb hd (bz_lv_at hl hx1) (kk hn H locs ls hP hD hS hl)
  · cases h
theorem bz_o_lload_n {k : Fin 4} {i : Nat} (hd : decode bytes pc = .ok (.lload_n k, 1)) (hi : (k : Nat) = i) : bz_ok own bytes pc (bz_lload i 1) := by
  intro X p l e R s m args below meth c Qf A ad ca D cells slots nL F L st σ g b h hg kk hn H locs ls hP hD hS hl
  obtain ⟨hx, hb, hml, hown, hts, hnw, hK, hA, hZ, hT, hce, hsl⟩ := F
  simp only [bz_lload] at h
  split at h
  · rename_i x hx1
    simp only [Option.some.injEq, Prod.mk.injEq] at h
    obtain ⟨rfl, rfl⟩ := h
    exact lv_lload_n hx hb hd hi (bz_lv_at hl hx1) (kk hn H locs ls hP hD hS hl)
  · cases h
theorem bz_o_lload {i : Nat} (hd : decode bytes pc = .ok (.lload i, 2)) : bz_ok own bytes pc (bz_lload i 2) := by
  intro X p l e R s m args below meth c Qf A ad ca D cells slots nL F L st σ g b h hg kk hn H locs ls hP hD hS hl
  obtain ⟨hx, hb, hml, hown, hts, hnw, hK, hA, hZ, hT, hce, hsl⟩ := F
  simp only [bz_lload] at h
  split at h
  · rename_i x hx1
    simp only [Option.some.injEq, Prod.mk.injEq] at h
    obtain ⟨rfl, rfl⟩ := h
    exact lv_lload hx hb hd (bz_lv_at hl hx1) (kk hn H locs ls hP hD hS hl)
  · cases h
theorem bz_o_aload_n {k : Fin 4} {i : Nat} (hd : decode bytes pc = .ok (.aload_n k, 1)) (hi : (k : Nat) = i) : bz_ok own bytes pc (bz_aload i 1) := by
  intro X p l e R s m args below meth c Qf A ad ca D cells slots nL F L st σ g b h hg kk hn H locs ls hP hD hS hl
  obtain ⟨hx, hb, hml, hown, hts, hnw, hK, hA, hZ, hT, hce, hsl⟩ := F
  simp only [bz_aload] at h
  split at h
  · rename_i x hx1
    simp only [Option.some.injEq, Prod.mk.injEq] at h
    obtain ⟨rfl, rfl⟩ := h
    exact lv_aload_n hx hb hd hi (bz_lv_at hl hx1) (kk hn H locs ls hP hD hS hl)
  · cases h
theorem bz_o_aload {i : Nat} (hd : decode bytes pc = .ok (.aload i, 2)) : bz_ok own bytes pc (bz_aload i 2) := by
  intro X p l e R s m args below meth c Qf A ad ca D cells slots nL F L st σ g b h hg kk hn H locs ls hP hD hS hl
  obtain ⟨hx, hb, hml, hown, hts, hnw, hK, hA, hZ, hT, hce, hsl⟩ := F
  simp only [bz_aload] at h
  split at h
  · rename_i x hx1
    simp only [Option.some.injEq, Prod.mk.injEq] at h
    obtain ⟨rfl, rfl⟩ := h
    exact lv_aload hx hb hd (bz_lv_at hl hx1) (kk hn H locs ls hP hD hS hl)
  · cases h
theorem bz_o_istore_n {k : Fin 4} {i : Nat} (hd : decode bytes pc = .ok (.istore_n k, 1)) (hi : (k : Nat) = i) : bz_ok own bytes pc (bz_istore i 1) := by
  intro X p l e R s m args below meth c Qf A ad ca D cells slots nL F L st σ g b h hg kk hn H locs ls hP hD hS hl
  obtain ⟨hx, hb, hml, hown, hts, hnw, hK, hA, hZ, hT, hce, hsl⟩ := F
  simp only [bz_istore] at h
  split at h
  · rename_i x r
    cases hlt : Nat.blt i L.length with
    | false => rw [hlt] at h; cases h
    | true =>
      rw [hlt] at h
      simp only [cond_true, Option.some.injEq, Prod.mk.injEq] at h
      obtain ⟨rfl, rfl⟩ := h
      have hi2 : i < L.length := Nat.le_of_ble_eq_true hlt
      refine lv_istore_n hx hb hd hi hl (hn ▸ hi2) rfl (fun ls' hl' => ?_)
      refine (kk ((by simp [bz_kl_len] : _ = L.length).trans hn) H locs ls' hP hD hS (bz_lv_mono hl' ?_))
      exact bz_st1_mem hi2
  · cases h
theorem bz_o_istore {i : Nat} (hd : decode bytes pc = .ok (.istore i, 2)) : bz_ok own bytes pc (bz_istore i 2) := by
  intro X p l e R s m args below meth c Qf A ad ca D cells slots nL F L st σ g b h hg kk hn H locs ls hP hD hS hl
  obtain ⟨hx, hb, hml, hown, hts, hnw, hK, hA, hZ, hT, hce, hsl⟩ := F
  simp only [bz_istore] at h
  split at h
  · rename_i x r
    cases hlt : Nat.blt i L.length with
    | false => rw [hlt] at h; cases h
    | true =>
      rw [hlt] at h
      simp only [cond_true, Option.some.injEq, Prod.mk.injEq] at h
      obtain ⟨rfl, rfl⟩ := h
      have hi2 : i < L.length := Nat.le_of_ble_eq_true hlt
      refine lv_istore hx hb hd hl (hn ▸ hi2) rfl (fun ls' hl' => ?_)
      refine (kk ((by simp [bz_kl_len] : _ = L.length).trans hn) H locs ls' hP hD hS (bz_lv_mono hl' ?_))
      exact bz_st1_mem hi2
  · cases h
theorem bz_o_lstore_n {k : Fin 4} {i : Nat} (hd : decode bytes pc = .ok (.lstore_n k, 1)) (hi : (k : Nat) = i) : bz_ok own bytes pc (bz_lstore i 1) := by
  intro X p l e R s m args below meth c Qf A ad ca D cells slots nL F L st σ g b h hg kk hn H locs ls hP hD hS hl
  obtain ⟨hx, hb, hml, hown, hts, hnw, hK, hA, hZ, hT, hce, hsl⟩ := F
  simp only [bz_lstore] at h
  split at h
  · rename_i x r
    cases hlt : Nat.blt (i + 1) L.length with
    | false => rw [hlt] at h; cases h
    | true =>
      rw [hlt] at h
      simp only [cond_true, Option.some.injEq, Prod.mk.injEq] at h
      obtain ⟨rfl, rfl⟩ := h
      have hi2 : i + 1 < L.length := Nat.le_of_ble_eq_true hlt
      refine lv_lstore_n hx hb hd hi hl (hn ▸ hi2) rfl (fun ls' hl' => ?_)
      refine (kk ((by simp [bz_kl_len] : _ = L.length).trans hn) H locs ls' hP hD hS (bz_lv_mono hl' ?_))
      exact bz_st2_mem hi2
  · cases h
theorem bz_o_lstore {i : Nat} (hd : decode bytes pc = .ok (.lstore i, 2)) : bz_ok own bytes pc (bz_lstore i 2) := by
  intro X p l e R s m args below meth c Qf A ad ca D cells slots nL F L st σ g b h hg kk hn H locs ls hP hD hS hl
  obtain ⟨hx, hb, hml, hown, hts, hnw, hK, hA, hZ, hT, hce, hsl⟩ := F
  simp only [bz_lstore] at h
  split at h
  · rename_i x r
    cases hlt : Nat.blt (i + 1) L.length with
    | false => rw [hlt] at h; cases h
    | true =>
      rw [hlt] at h
      simp only [cond_true, Option.some.injEq, Prod.mk.injEq] at h
      obtain ⟨rfl, rfl⟩ := h
      have hi2 : i + 1 < L.length := Nat.le_of_ble_eq_true hlt
      refine lv_lstore hx hb hd hl (hn ▸ hi2) rfl (fun ls' hl' => ?_)
      refine (kk ((by simp [bz_kl_len] : _ = L.length).trans hn) H locs ls' hP hD hS (bz_lv_mono hl' ?_))
      exact bz_st2_mem hi2
  · cases h
theorem bz_o_iadd (hd : decode bytes pc = .ok (.iadd, 1)) : bz_ok own bytes pc (bz_ii (fun x y => x + y)) := by
  intro X p l e R s m args below meth c Qf A ad ca D cells slots nL F L st σ g b h hg kk hn H locs ls hP hD hS hl
  obtain ⟨hx, hb, hml, hown, hts, hnw, hK, hA, hZ, hT, hce, hsl⟩ := F
  simp only [bz_ii] at h
  split at h
  · rename_i y x r
    simp only [Option.some.injEq, Prod.mk.injEq] at h
    obtain ⟨rfl, rfl⟩ := h
    exact lv_iadd hx hb hd (kk hn H locs ls hP hD hS hl)
  · cases h
theorem bz_o_isub (hd : decode bytes pc = .ok (.isub, 1)) : bz_ok own bytes pc (bz_ii (fun x y => x - y)) := by
  intro X p l e R s m args below meth c Qf A ad ca D cells slots nL F L st σ g b h hg kk hn H locs ls hP hD hS hl
  obtain ⟨hx, hb, hml, hown, hts, hnw, hK, hA, hZ, hT, hce, hsl⟩ := F
  simp only [bz_ii] at h
  split at h
  · rename_i y x r
    simp only [Option.some.injEq, Prod.mk.injEq] at h
    obtain ⟨rfl, rfl⟩ := h
    exact lv_isub hx hb hd (kk hn H locs ls hP hD hS hl)
  · cases h
theorem bz_o_imul (hd : decode bytes pc = .ok (.imul, 1)) : bz_ok own bytes pc (bz_ii (fun x y => x * y)) := by
  intro X p l e R s m args below meth c Qf A ad ca D cells slots nL F L st σ g b h hg kk hn H locs ls hP hD hS hl
  obtain ⟨hx, hb, hml, hown, hts, hnw, hK, hA, hZ, hT, hce, hsl⟩ := F
  simp only [bz_ii] at h
  split at h
  · rename_i y x r
    simp only [Option.some.injEq, Prod.mk.injEq] at h
    obtain ⟨rfl, rfl⟩ := h
    exact lv_imul hx hb hd (kk hn H locs ls hP hD hS hl)
  · cases h
theorem bz_o_iand (hd : decode bytes pc = .ok (.iand, 1)) : bz_ok own bytes pc (bz_ii (fun x y => x &&& y)) := by
  intro X p l e R s m args below meth c Qf A ad ca D cells slots nL F L st σ g b h hg kk hn H locs ls hP hD hS hl
  obtain ⟨hx, hb, hml, hown, hts, hnw, hK, hA, hZ, hT, hce, hsl⟩ := F
  simp only [bz_ii] at h
  split at h
  · rename_i y x r
    simp only [Option.some.injEq, Prod.mk.injEq] at h
    obtain ⟨rfl, rfl⟩ := h
    exact lv_iand hx hb hd (kk hn H locs ls hP hD hS hl)
  · cases h
theorem bz_o_ixor (hd : decode bytes pc = .ok (.ixor, 1)) : bz_ok own bytes pc (bz_ii (fun x y => x ^^^ y)) := by
  intro X p l e R s m args below meth c Qf A ad ca D cells slots nL F L st σ g b h hg kk hn H locs ls hP hD hS hl
  obtain ⟨hx, hb, hml, hown, hts, hnw, hK, hA, hZ, hT, hce, hsl⟩ := F
  simp only [bz_ii] at h
  split at h
  · rename_i y x r
    simp only [Option.some.injEq, Prod.mk.injEq] at h
    obtain ⟨rfl, rfl⟩ := h
    exact lv_ixor hx hb hd (kk hn H locs ls hP hD hS hl)
  · cases h
theorem bz_o_ladd (hd : decode bytes pc = .ok (.ladd, 1)) : bz_ok own bytes pc (bz_ll (fun x y => x + y)) := by
  intro X p l e R s m args below meth c Qf A ad ca D cells slots nL F L st σ g b h hg kk hn H locs ls hP hD hS hl
  obtain ⟨hx, hb, hml, hown, hts, hnw, hK, hA, hZ, hT, hce, hsl⟩ := F
  simp only [bz_ll] at h
  split at h
  · rename_i y x r
    simp only [Option.some.injEq, Prod.mk.injEq] at h
    obtain ⟨rfl, rfl⟩ := h
    exact lv_ladd hx hb hd (kk hn H locs ls hP hD hS hl)
  · cases h
theorem bz_o_lsub (hd : decode bytes pc = .ok (.lsub, 1)) : bz_ok own bytes pc (bz_ll (fun x y => x - y)) := by
  intro X p l e R s m args below meth c Qf A ad ca D cells slots nL F L st σ g b h hg kk hn H locs ls hP hD hS hl
  obtain ⟨hx, hb, hml, hown, hts, hnw, hK, hA, hZ, hT, hce, hsl⟩ := F
  simp only [bz_ll] at h
  split at h
  · rename_i y x r
    simp only [Option.some.injEq, Prod.mk.injEq] at h
    obtain ⟨rfl, rfl⟩ := h
    exact lv_lsub hx hb hd (kk hn H locs ls hP hD hS hl)
  · cases h
theorem bz_o_lmul (hd : decode bytes pc = .ok (.lmul, 1)) : bz_ok own bytes pc (bz_ll (fun x y => x * y)) := by
  intro X p l e R s m args below meth c Qf A ad ca D cells slots nL F L st σ g b h hg kk hn H locs ls hP hD hS hl
  obtain ⟨hx, hb, hml, hown, hts, hnw, hK, hA, hZ, hT, hce, hsl⟩ := F
  simp only [bz_ll] at h
  split at h
  · rename_i y x r
    simp only [Option.some.injEq, Prod.mk.injEq] at h
    obtain ⟨rfl, rfl⟩ := h
    exact lv_lmul hx hb hd (kk hn H locs ls hP hD hS hl)
  · cases h
theorem bz_o_land (hd : decode bytes pc = .ok (.land, 1)) : bz_ok own bytes pc (bz_ll (fun x y => x &&& y)) := by
  intro X p l e R s m args below meth c Qf A ad ca D cells slots nL F L st σ g b h hg kk hn H locs ls hP hD hS hl
  obtain ⟨hx, hb, hml, hown, hts, hnw, hK, hA, hZ, hT, hce, hsl⟩ := F
  simp only [bz_ll] at h
  split at h
  · rename_i y x r
    simp only [Option.some.injEq, Prod.mk.injEq] at h
    obtain ⟨rfl, rfl⟩ := h
    exact lv_land hx hb hd (kk hn H locs ls hP hD hS hl)
  · cases h
theorem bz_o_lor (hd : decode bytes pc = .ok (.lor, 1)) : bz_ok own bytes pc (bz_ll (fun x y => x ||| y)) := by
  intro X p l e R s m args below meth c Qf A ad ca D cells slots nL F L st σ g b h hg kk hn H locs ls hP hD hS hl
  obtain ⟨hx, hb, hml, hown, hts, hnw, hK, hA, hZ, hT, hce, hsl⟩ := F
  simp only [bz_ll] at h
  split at h
  · rename_i y x r
    simp only [Option.some.injEq, Prod.mk.injEq] at h
    obtain ⟨rfl, rfl⟩ := h
    exact lv_lor hx hb hd (kk hn H locs ls hP hD hS hl)
  · cases h
theorem bz_o_idiv (hd : decode bytes pc = .ok (.idiv, 1)) : bz_ok own bytes pc (bz_ig (fun x y => x / y)) := by
  intro X p l e R s m args below meth c Qf A ad ca D cells slots nL F L st σ g b h hg kk hn H locs ls hP hD hS hl
  obtain ⟨hx, hb, hml, hown, hts, hnw, hK, hA, hZ, hT, hce, hsl⟩ := F
  simp only [bz_ig] at h
  split at h
  · rename_i y x r
    simp only [Option.some.injEq, Prod.mk.injEq] at h
    obtain ⟨rfl, rfl⟩ := h
    exact lv_idiv hx hb hd hg.1 (kk hn H locs ls hP hD hS hl)
  · cases h
theorem bz_o_ldiv (hd : decode bytes pc = .ok (.ldiv, 1)) : bz_ok own bytes pc (bz_lg (fun x y => x / y)) := by
  intro X p l e R s m args below meth c Qf A ad ca D cells slots nL F L st σ g b h hg kk hn H locs ls hP hD hS hl
  obtain ⟨hx, hb, hml, hown, hts, hnw, hK, hA, hZ, hT, hce, hsl⟩ := F
  simp only [bz_lg] at h
  split at h
  · rename_i y x r
    simp only [Option.some.injEq, Prod.mk.injEq] at h
    obtain ⟨rfl, rfl⟩ := h
    exact lv_ldiv hx hb hd hg.1 (kk hn H locs ls hP hD hS hl)
  · cases h
theorem bz_o_irem (hd : decode bytes pc = .ok (.irem, 1)) : bz_ok own bytes pc (bz_ig (fun x y => x % y)) := by
  intro X p l e R s m args below meth c Qf A ad ca D cells slots nL F L st σ g b h hg kk hn H locs ls hP hD hS hl
  obtain ⟨hx, hb, hml, hown, hts, hnw, hK, hA, hZ, hT, hce, hsl⟩ := F
  simp only [bz_ig] at h
  split at h
  · rename_i y x r
    simp only [Option.some.injEq, Prod.mk.injEq] at h
    obtain ⟨rfl, rfl⟩ := h
    have k := (kk hn H locs ls hP hD hS hl)
    refine lv_irem hx hb hd hg.1 ?_
    rw [irem_eq_mod]
    exact k
  · cases h
theorem bz_o_lrem (hd : decode bytes pc = .ok (.lrem, 1)) : bz_ok own bytes pc (bz_lg (fun x y => x % y)) := by
  intro X p l e R s m args below meth c Qf A ad ca D cells slots nL F L st σ g b h hg kk hn H locs ls hP hD hS hl
  obtain ⟨hx, hb, hml, hown, hts, hnw, hK, hA, hZ, hT, hce, hsl⟩ := F
  simp only [bz_lg] at h
  split at h
  · rename_i y x r
    simp only [Option.some.injEq, Prod.mk.injEq] at h
    obtain ⟨rfl, rfl⟩ := h
    have k := (kk hn H locs ls hP hD hS hl)
    refine lv_lrem hx hb hd hg.1 ?_
    rw [bz_lrem_eq]
    exact k
  · cases h
theorem bz_o_lushr (hd : decode bytes pc = .ok (.lushr, 1)) : bz_ok own bytes pc (bz_li (fun x y => (x.toUInt64 >>> (y.toInt64.toUInt64 &&& Int64.toUInt64 63)).toInt64)) := by
  intro X p l e R s m args below meth c Qf A ad ca D cells slots nL F L st σ g b h hg kk hn H locs ls hP hD hS hl
  obtain ⟨hx, hb, hml, hown, hts, hnw, hK, hA, hZ, hT, hce, hsl⟩ := F
  simp only [bz_li] at h
  split at h
  · rename_i y x r
    simp only [Option.some.injEq, Prod.mk.injEq] at h
    obtain ⟨rfl, rfl⟩ := h
    exact lv_lushr hx hb hd rfl (kk hn H locs ls hP hD hS hl)
  · cases h
theorem bz_o_lshl (hd : decode bytes pc = .ok (.lshl, 1)) : bz_ok own bytes pc (bz_li (fun x y => x <<< (y.toInt64 &&& 63))) := by
  intro X p l e R s m args below meth c Qf A ad ca D cells slots nL F L st σ g b h hg kk hn H locs ls hP hD hS hl
  obtain ⟨hx, hb, hml, hown, hts, hnw, hK, hA, hZ, hT, hce, hsl⟩ := F
  simp only [bz_li] at h
  split at h
  · rename_i y x r
    simp only [Option.some.injEq, Prod.mk.injEq] at h
    obtain ⟨rfl, rfl⟩ := h
    exact lv_lshl hx hb hd rfl (kk hn H locs ls hP hD hS hl)
  · cases h
theorem bz_o_i2l (hd : decode bytes pc = .ok (.i2l, 1)) : bz_ok own bytes pc (bz_i2l) := by
  intro X p l e R s m args below meth c Qf A ad ca D cells slots nL F L st σ g b h hg kk hn H locs ls hP hD hS hl
  obtain ⟨hx, hb, hml, hown, hts, hnw, hK, hA, hZ, hT, hce, hsl⟩ := F
  simp only [bz_i2l] at h
  split at h
  · rename_i x r
    simp only [Option.some.injEq, Prod.mk.injEq] at h
    obtain ⟨rfl, rfl⟩ := h
    exact lv_i2l hx hb hd rfl (kk hn H locs ls hP hD hS hl)
  · cases h
theorem bz_o_l2i (hd : decode bytes pc = .ok (.l2i, 1)) : bz_ok own bytes pc (bz_l2i) := by
  intro X p l e R s m args below meth c Qf A ad ca D cells slots nL F L st σ g b h hg kk hn H locs ls hP hD hS hl
  obtain ⟨hx, hb, hml, hown, hts, hnw, hK, hA, hZ, hT, hce, hsl⟩ := F
  simp only [bz_l2i] at h
  split at h
  · rename_i x r
    simp only [Option.some.injEq, Prod.mk.injEq] at h
    obtain ⟨rfl, rfl⟩ := h
    exact lv_l2i hx hb hd rfl (kk hn H locs ls hP hD hS hl)
  · cases h
theorem bz_o_lcmp (hd : decode bytes pc = .ok (.lcmp, 1)) : bz_ok own bytes pc (bz_lcmp) := by
  intro X p l e R s m args below meth c Qf A ad ca D cells slots nL F L st σ g b h hg kk hn H locs ls hP hD hS hl
  obtain ⟨hx, hb, hml, hown, hts, hnw, hK, hA, hZ, hT, hce, hsl⟩ := F
  simp only [bz_lcmp] at h
  split at h
  · rename_i y x r
    simp only [Option.some.injEq, Prod.mk.injEq] at h
    obtain ⟨rfl, rfl⟩ := h
    exact W.lcmp hx hb hd (kk hn H locs ls hP hD hS hl)
  · cases h
theorem bz_o_dup (hd : decode bytes pc = .ok (.dup, 1)) : bz_ok own bytes pc (bz_dup) := by
  intro X p l e R s m args below meth c Qf A ad ca D cells slots nL F L st σ g b h hg kk hn H locs ls hP hD hS hl
  obtain ⟨hx, hb, hml, hown, hts, hnw, hK, hA, hZ, hT, hce, hsl⟩ := F
  simp only [bz_dup] at h
  split at h
  · rename_i x r
    simp only [Option.some.injEq, Prod.mk.injEq] at h
    obtain ⟨rfl, rfl⟩ := h
    exact lv_dup hx hb hd rfl (kk hn H locs ls hP hD hS hl)
  · rename_i x r
    simp only [Option.some.injEq, Prod.mk.injEq] at h
    obtain ⟨rfl, rfl⟩ := h
    exact lv_dup hx hb hd rfl (kk hn H locs ls hP hD hS hl)
  · cases h
theorem bz_o_pop (hd : decode bytes pc = .ok (.pop, 1)) : bz_ok own bytes pc (bz_pop1) := by
  intro X p l e R s m args below meth c Qf A ad ca D cells slots nL F L st σ g b h hg kk hn H locs ls hP hD hS hl
  obtain ⟨hx, hb, hml, hown, hts, hnw, hK, hA, hZ, hT, hce, hsl⟩ := F
  simp only [bz_pop1] at h
  split at h
  · rename_i x r
    simp only [Option.some.injEq, Prod.mk.injEq] at h
    obtain ⟨rfl, rfl⟩ := h
    exact lv_pop hx hb hd rfl (kk hn H locs ls hP hD hS hl)
  · cases h
theorem bz_o_dup2 (hd : decode bytes pc = .ok (.dup2, 1)) : bz_ok own bytes pc (bz_dup2) := by
  intro X p l e R s m args below meth c Qf A ad ca D cells slots nL F L st σ g b h hg kk hn H locs ls hP hD hS hl
  obtain ⟨hx, hb, hml, hown, hts, hnw, hK, hA, hZ, hT, hce, hsl⟩ := F
  simp only [bz_dup2] at h
  split at h
  · rename_i x y r
    simp only [Option.some.injEq, Prod.mk.injEq] at h
    obtain ⟨rfl, rfl⟩ := h
    exact lv_dup2_11 hx hb hd rfl rfl (kk hn H locs ls hP hD hS hl)
  · cases h
theorem bz_o_goto {off : Int} {t : Nat} (hd : decode bytes pc = .ok (.goto off, 3)) (ht : (pc : Int) + off = (t : Int)) : bz_ok own bytes pc (bz_goto t) := by
  intro X p l e R s m args below meth c Qf A ad ca D cells slots nL F L st σ g b h hg kk hn H locs ls hP hD hS hl
  obtain ⟨hx, hb, hml, hown, hts, hnw, hK, hA, hZ, hT, hce, hsl⟩ := F
  simp only [bz_goto, Option.some.injEq, Prod.mk.injEq] at h
  obtain ⟨rfl, rfl⟩ := h
  exact lv_goto hx hb hd ht (kk hn H locs ls hP hD hS hl)
def bz_if_eq (t : Nat) : bz_Op := bz_ifi (fun x => x = 0) (fun x => inferInstanceAs (Decidable (x = 0))) t
def bz_ic_eq (t : Nat) : bz_Op := bz_icm (fun x y => x = y) (fun x y => inferInstanceAs (Decidable (x = y))) t
theorem bz_o_if_eq {off : Int} {t : Nat} (hd : decode bytes pc = .ok (.ifCond .eq off, 3)) (ht : (pc : Int) + off = (t : Int)) : bz_ok own bytes pc (bz_if_eq t) := by
  intro X p l e R s m args below meth c Qf A ad ca D cells slots nL F L st σ g b h hg kk hn H locs ls hP hD hS hl
  obtain ⟨hx, hb, hml, hown, hts, hnw, hK, hA, hZ, hT, hce, hsl⟩ := F
  unfold bz_if_eq at h
  simp only [bz_ifi] at h
  split at h
  · rename_i x r
    simp only [Option.some.injEq, Prod.mk.injEq] at h
    obtain ⟨rfl, rfl⟩ := h
    refine lv_if_eq hx hb hd ht (fun hc => ?_) (fun hc => ?_)
    · rw [if_pos hc] at kk
      exact (kk hn H locs ls hP hD hS hl)
    · rw [if_neg hc] at kk
      exact (kk hn H locs ls hP hD hS hl)
  · cases h
theorem bz_o_ic_eq {off : Int} {t : Nat} (hd : decode bytes pc = .ok (.if_icmp .eq off, 3)) (ht : (pc : Int) + off = (t : Int)) : bz_ok own bytes pc (bz_ic_eq t) := by
  intro X p l e R s m args below meth c Qf A ad ca D cells slots nL F L st σ g b h hg kk hn H locs ls hP hD hS hl
  obtain ⟨hx, hb, hml, hown, hts, hnw, hK, hA, hZ, hT, hce, hsl⟩ := F
  unfold bz_ic_eq at h
  simp only [bz_icm] at h
  split at h
  · rename_i y x r
    simp only [Option.some.injEq, Prod.mk.injEq] at h
    obtain ⟨rfl, rfl⟩ := h
    refine lv_icmp_eq hx hb hd ht (fun hc => ?_) (fun hc => ?_)
    · rw [if_pos hc] at kk
      exact (kk hn H locs ls hP hD hS hl)
    · rw [if_neg hc] at kk
      exact (kk hn H locs ls hP hD hS hl)
  · cases h
def bz_if_ne (t : Nat) : bz_Op := bz_ifi (fun x => ¬ x = 0) (fun x => inferInstanceAs (Decidable (¬ x = 0))) t
def bz_ic_ne (t : Nat) : bz_Op := bz_icm (fun x y => ¬ x = y) (fun x y => inferInstanceAs (Decidable (¬ x = y))) t
theorem bz_o_if_ne {off : Int} {t : Nat} (hd : decode bytes pc = .ok (.ifCond .ne off, 3)) (ht : (pc : Int) + off = (t : Int)) : bz_ok own bytes pc (bz_if_ne t) := by
  intro X p l e R s m args below meth c Qf A ad ca D cells slots nL F L st σ g b h hg kk hn H locs ls hP hD hS hl
  obtain ⟨hx, hb, hml, hown, hts, hnw, hK, hA, hZ, hT, hce, hsl⟩ := F
  unfold bz_if_ne at h
  simp only [bz_ifi] at h
  split at h
  · rename_i x r
    simp only [Option.some.injEq, Prod.mk.injEq] at h
    obtain ⟨rfl, rfl⟩ := h
    refine lv_if_ne hx hb hd ht (fun hc => ?_) (fun hc => ?_)
    · rw [if_pos hc] at kk
      exact (kk hn H locs ls hP hD hS hl)
    · rw [if_neg (fun z => z hc)] at kk
      exact (kk hn H locs ls hP hD hS hl)
  · cases h
theorem bz_o_ic_ne {off : Int} {t : Nat} (hd : decode bytes pc = .ok (.if_icmp .ne off, 3)) (ht : (pc : Int) + off = (t : Int)) : bz_ok own bytes pc (bz_ic_ne t) := by
  intro X p l e R s m args below meth c Qf A ad ca D cells slots nL F L st σ g b h hg kk hn H locs ls hP hD hS hl
  obtain ⟨hx, hb, hml, hown, hts, hnw, hK, hA, hZ, hT, hce, hsl⟩ := F
  unfold bz_ic_ne at h
  simp only [bz_icm] at h
  split at h
  · rename_i y x r
    simp only [Option.some.injEq, Prod.mk.injEq] at h
    obtain ⟨rfl, rfl⟩ := h
    refine lv_icmp_ne hx hb hd ht (fun hc => ?_) (fun hc => ?_)
    · rw [if_pos hc] at kk
      exact (kk hn H locs ls hP hD hS hl)
    · rw [if_neg (fun z => z hc)] at kk
      exact (kk hn H locs ls hP hD hS hl)
  · cases h
def bz_if_lt (t : Nat) : bz_Op := bz_ifi (fun x => x < 0) (fun x => inferInstanceAs (Decidable (x < 0))) t
def bz_ic_lt (t : Nat) : bz_Op := bz_icm (fun x y => x < y) (fun x y => inferInstanceAs (Decidable (x < y))) t
theorem bz_o_if_lt {off : Int} {t : Nat} (hd : decode bytes pc = .ok (.ifCond .lt off, 3)) (ht : (pc : Int) + off = (t : Int)) : bz_ok own bytes pc (bz_if_lt t) := by
  intro X p l e R s m args below meth c Qf A ad ca D cells slots nL F L st σ g b h hg kk hn H locs ls hP hD hS hl
  obtain ⟨hx, hb, hml, hown, hts, hnw, hK, hA, hZ, hT, hce, hsl⟩ := F
  unfold bz_if_lt at h
  simp only [bz_ifi] at h
  split at h
  · rename_i x r
    simp only [Option.some.injEq, Prod.mk.injEq] at h
    obtain ⟨rfl, rfl⟩ := h
    refine lv_if_lt hx hb hd ht (fun hc => ?_) (fun hc => ?_)
    · rw [if_pos hc] at kk
      exact (kk hn H locs ls hP hD hS hl)
    · rw [if_neg hc] at kk
      exact (kk hn H locs ls hP hD hS hl)
  · cases h
theorem bz_o_ic_lt {off : Int} {t : Nat} (hd : decode bytes pc = .ok (.if_icmp .lt off, 3)) (ht : (pc : Int) + off = (t : Int)) : bz_ok own bytes pc (bz_ic_lt t) := by
  intro X p l e R s m args below meth c Qf A ad ca D cells slots nL F L st σ g b h hg kk hn H locs ls hP hD hS hl
  obtain ⟨hx, hb, hml, hown, hts, hnw, hK, hA, hZ, hT, hce, hsl⟩ := F
  unfold bz_ic_lt at h
  simp only [bz_icm] at h
  split at h
  · rename_i y x r
    simp only [Option.some.injEq, Prod.mk.injEq] at h
    obtain ⟨rfl, rfl⟩ := h
    refine lv_icmp_lt hx hb hd ht (fun hc => ?_) (fun hc => ?_)
    · rw [if_pos hc] at kk
      exact (kk hn H locs ls hP hD hS hl)
    · rw [if_neg hc] at kk
      exact (kk hn H locs ls hP hD hS hl)
  · cases h
def bz_if_ge (t : Nat) : bz_Op := bz_ifi (fun x => 0 ≤ x) (fun x => inferInstanceAs (Decidable (0 ≤ x))) t
def bz_ic_ge (t : Nat) : bz_Op := bz_icm (fun x y => y ≤ x) (fun x y => inferInstanceAs (Decidable (y ≤ x))) t
theorem bz_o_if_ge {off : Int} {t : Nat} (hd : decode bytes pc = .ok (.ifCond .ge off, 3)) (ht : (pc : Int) + off = (t : Int)) : bz_ok own bytes pc (bz_if_ge t) := by
  intro X p l e R s m args below meth c Qf A ad ca D cells slots nL F L st σ g b h hg kk hn H locs ls hP hD hS hl
  obtain ⟨hx, hb, hml, hown, hts, hnw, hK, hA, hZ, hT, hce, hsl⟩ := F
  unfold bz_if_ge at h
  simp only [bz_ifi] at h
  split at h
  · rename_i x r
    simp only [Option.some.injEq, Prod.mk.injEq] at h
    obtain ⟨rfl, rfl⟩ := h
    refine lv_if_ge hx hb hd ht (fun hc => ?_) (fun hc => ?_)
    · rw [if_pos hc] at kk
      exact (kk hn H locs ls hP hD hS hl)
    · rw [if_neg hc] at kk
      exact (kk hn H locs ls hP hD hS hl)
  · cases h
theorem bz_o_ic_ge {off : Int} {t : Nat} (hd : decode bytes pc = .ok (.if_icmp .ge off, 3)) (ht : (pc : Int) + off = (t : Int)) : bz_ok own bytes pc (bz_ic_ge t) := by
  intro X p l e R s m args below meth c Qf A ad ca D cells slots nL F L st σ g b h hg kk hn H locs ls hP hD hS hl
  obtain ⟨hx, hb, hml, hown, hts, hnw, hK, hA, hZ, hT, hce, hsl⟩ := F
  unfold bz_ic_ge at h
  simp only [bz_icm] at h
  split at h
  · rename_i y x r
    simp only [Option.some.injEq, Prod.mk.injEq] at h
    obtain ⟨rfl, rfl⟩ := h
    refine lv_icmp_ge hx hb hd ht (fun hc => ?_) (fun hc => ?_)
    · rw [if_pos hc] at kk
      exact (kk hn H locs ls hP hD hS hl)
    · rw [if_neg hc] at kk
      exact (kk hn H locs ls hP hD hS hl)
  · cases h
def bz_if_gt (t : Nat) : bz_Op := bz_ifi (fun x => 0 < x) (fun x => inferInstanceAs (Decidable (0 < x))) t
def bz_ic_gt (t : Nat) : bz_Op := bz_icm (fun x y => y < x) (fun x y => inferInstanceAs (Decidable (y < x))) t
theorem bz_o_if_gt {off : Int} {t : Nat} (hd : decode bytes pc = .ok (.ifCond .gt off, 3)) (ht : (pc : Int) + off = (t : Int)) : bz_ok own bytes pc (bz_if_gt t) := by
  intro X p l e R s m args below meth c Qf A ad ca D cells slots nL F L st σ g b h hg kk hn H locs ls hP hD hS hl
  obtain ⟨hx, hb, hml, hown, hts, hnw, hK, hA, hZ, hT, hce, hsl⟩ := F
  unfold bz_if_gt at h
  simp only [bz_ifi] at h
  split at h
  · rename_i x r
    simp only [Option.some.injEq, Prod.mk.injEq] at h
    obtain ⟨rfl, rfl⟩ := h
    refine lv_if_gt hx hb hd ht (fun hc => ?_) (fun hc => ?_)
    · rw [if_pos hc] at kk
      exact (kk hn H locs ls hP hD hS hl)
    · rw [if_neg hc] at kk
      exact (kk hn H locs ls hP hD hS hl)
  · cases h
theorem bz_o_ic_gt {off : Int} {t : Nat} (hd : decode bytes pc = .ok (.if_icmp .gt off, 3)) (ht : (pc : Int) + off = (t : Int)) : bz_ok own bytes pc (bz_ic_gt t) := by
  intro X p l e R s m args below meth c Qf A ad ca D cells slots nL F L st σ g b h hg kk hn H locs ls hP hD hS hl
  obtain ⟨hx, hb, hml, hown, hts, hnw, hK, hA, hZ, hT, hce, hsl⟩ := F
  unfold bz_ic_gt at h
  simp only [bz_icm] at h
  split at h
  · rename_i y x r
    simp only [Option.some.injEq, Prod.mk.injEq] at h
    obtain ⟨rfl, rfl⟩ := h
    refine lv_icmp_gt hx hb hd ht (fun hc => ?_) (fun hc => ?_)
    · rw [if_pos hc] at kk
      exact (kk hn H locs ls hP hD hS hl)
    · rw [if_neg hc] at kk
      exact (kk hn H locs ls hP hD hS hl)
  · cases h
def bz_if_le (t : Nat) : bz_Op := bz_ifi (fun x => x ≤ 0) (fun x => inferInstanceAs (Decidable (x ≤ 0))) t
def bz_ic_le (t : Nat) : bz_Op := bz_icm (fun x y => x ≤ y) (fun x y => inferInstanceAs (Decidable (x ≤ y))) t
theorem bz_o_if_le {off : Int} {t : Nat} (hd : decode bytes pc = .ok (.ifCond .le off, 3)) (ht : (pc : Int) + off = (t : Int)) : bz_ok own bytes pc (bz_if_le t) := by
  intro X p l e R s m args below meth c Qf A ad ca D cells slots nL F L st σ g b h hg kk hn H locs ls hP hD hS hl
  obtain ⟨hx, hb, hml, hown, hts, hnw, hK, hA, hZ, hT, hce, hsl⟩ := F
  unfold bz_if_le at h
  simp only [bz_ifi] at h
  split at h
  · rename_i x r
    simp only [Option.some.injEq, Prod.mk.injEq] at h
    obtain ⟨rfl, rfl⟩ := h
    refine lv_if_le hx hb hd ht (fun hc => ?_) (fun hc => ?_)
    · rw [if_pos hc] at kk
      exact (kk hn H locs ls hP hD hS hl)
    · rw [if_neg hc] at kk
      exact (kk hn H locs ls hP hD hS hl)
  · cases h
theorem bz_o_ic_le {off : Int} {t : Nat} (hd : decode bytes pc = .ok (.if_icmp .le off, 3)) (ht : (pc : Int) + off = (t : Int)) : bz_ok own bytes pc (bz_ic_le t) := by
  intro X p l e R s m args below meth c Qf A ad ca D cells slots nL F L st σ g b h hg kk hn H locs ls hP hD hS hl
  obtain ⟨hx, hb, hml, hown, hts, hnw, hK, hA, hZ, hT, hce, hsl⟩ := F
  unfold bz_ic_le at h
  simp only [bz_icm] at h
  split at h
  · rename_i y x r
    simp only [Option.some.injEq, Prod.mk.injEq] at h
    obtain ⟨rfl, rfl⟩ := h
    refine lv_icmp_le hx hb hd ht (fun hc => ?_) (fun hc => ?_)
    · rw [if_pos hc] at kk
      exact (kk hn H locs ls hP hD hS hl)
    · rw [if_neg hc] at kk
      exact (kk hn H locs ls hP hD hS hl)
  · cases h

def bz_mk : Int → List Nat → List (Int × Nat)
  | _, [] => []
  | lo, t :: r => (lo, t) :: bz_mk (lo + 1) r
theorem bz_sw_mk (d : Nat) (x : Int) : ∀ (ts : List Nat) (lo : Int), (x < lo ∨ lo + ts.length ≤ x → bz_sw x (bz_mk lo ts) d = d) ∧ (lo ≤ x → x < lo + ts.length → bz_sw x (bz_mk lo ts) d = ts.getD (x - lo).toNat 0) := by
  intro ts
  induction ts with
  | nil =>
    intro lo
    exact ⟨fun _ => rfl, fun h1 h2 => by simp at h2; omega⟩
  | cons t r ih =>
    intro lo
    obtain ⟨i1, i2⟩ := ih (lo + 1)
    refine ⟨fun h => ?_, fun h1 h2 => ?_⟩
    · simp only [List.length_cons] at h
      have hne : ¬ x = lo := by omega
      simp only [bz_mk, bz_sw, if_neg hne]
      exact i1 (by omega)
    · simp only [List.length_cons] at h2
      by_cases hx : x = lo
      · subst hx
        simp [bz_mk, bz_sw]
      · simp only [bz_mk, bz_sw, if_neg hx]
        rw [i2 (by omega) (by omega)]
        have : (x - lo).toNat = (x - (lo + 1)).toNat + 1 := by omega
        rw [this]
        simp
theorem bz_sw_lk (pc : Nat) (df : Int) (d : Nat) (x : Int) (hd : (pc : Int) + df = d) : ∀ (ps : List (Int × Int)) (cs : List (Int × Nat)), ps.map (fun q => (q.1, (pc : Int) + q.2)) = cs.map (fun q => (q.1, (q.2 : Int))) → (pc : Int) + Op.lookupswitch.offset ps df x = (bz_sw x cs d : Nat) := by
  intro ps
  induction ps with
  | nil =>
    intro cs h
    cases cs with
    | nil => simpa [Op.lookupswitch.offset, bz_sw] using hd
    | cons c cs => simp at h
  | cons q ps ih =>
    intro cs h
    cases cs with
    | nil => simp at h
    | cons c cs =>
      simp only [List.map_cons, List.cons.injEq, Prod.mk.injEq] at h
      obtain ⟨⟨h1, h2⟩, h3⟩ := h
      obtain ⟨a, o⟩ := q
      obtain ⟨a', t⟩ := c
      dsimp only at h1 h2
      subst h1
      rw [Op.lookupswitch.offset_cons]
      by_cases hx : x = a
      · subst hx
        simp [bz_sw, h2]
      · rw [if_neg (fun z => hx z.symm)]
        simp only [bz_sw, if_neg hx]
        exact ih cs h3
theorem bz_o_getI {ci k idx N kd : Nat} {C : String} {T : u_T} (hcl : vwCl[ci]? = some (C, T, N)) (hin : ∀ w ∈ u_ws C T N, w ∈ bz_TB) (hN : (bz_fk ci).length = N) (hk : (bz_fk ci)[k]? = some kd) (hw : Cond.fieldLink own idx (T k).1 (T k).2.1 (T k).2.2.1 ∈ bz_TB) (hkd : kd = 0 ∨ kd = 3) (hd : decode bytes pc = .ok (.getfield idx, 3)) : bz_ok own bytes pc (bz_getI ci k) := by
  intro X p l e R s m args below meth c Qf A ad ca D cells slots nL F L st σ g b h hg kk hn H locs ls hP hD hS hl
  obtain ⟨hx, hb, hml, hown, hts, hnw, hK, hA, hZ, hT, hce, hsl⟩ := F
  simp only [bz_getI] at h
  split at h
  · rename_i o r
    cases hb0 : bz_isO o ci with
    | false => rw [hb0] at h; cases h
    | true =>
      rw [hb0] at h
      simp only [cond_true, Option.some.injEq, Prod.mk.injEq] at h
      obtain ⟨rfl, rfl⟩ := h
      obtain ⟨ps, hsh⟩ := bz_isO_sp hb0
      have hkN : k < N := by rw [← hN]; exact (List.getElem?_eq_some_iff.mp hk).1
      have hgd : (bz_fk ci).getD k 0 = kd := by rw [List.getD_eq_getElem?_getD, hk]; rfl
      refine va_get (D := D) (cl := vwCl) (ci := ci) (C := C) (T := T) (N := N) (ws := bz_W ad ca σ) (fs := (List.range (bz_fk ci).length).map (fun k => bz_fv ad σ o ps k ((bz_fk ci).getD k 0))) hx hb hts hin hown hK hP o (bz_W_at hsh) hcl k hkN (hts _ hw) (fun _ h9 => h9) (v := .int (σ.1 o k)) ?_ hd (kk hn H locs ls hP hD hS hl)
      rw [List.getElem?_map, List.getElem?_range (by rw [hN]; exact hkN), Option.map_some, hgd]
      rcases hkd with rfl | rfl <;> rfl
  · cases h
theorem bz_o_getL {ci k idx N kd : Nat} {C : String} {T : u_T} (hcl : vwCl[ci]? = some (C, T, N)) (hin : ∀ w ∈ u_ws C T N, w ∈ bz_TB) (hN : (bz_fk ci).length = N) (hk : (bz_fk ci)[k]? = some kd) (hw : Cond.fieldLink own idx (T k).1 (T k).2.1 (T k).2.2.1 ∈ bz_TB) (hkd : kd = 1) (hd : decode bytes pc = .ok (.getfield idx, 3)) : bz_ok own bytes pc (bz_getL ci k) := by
  intro X p l e R s m args below meth c Qf A ad ca D cells slots nL F L st σ g b h hg kk hn H locs ls hP hD hS hl
  obtain ⟨hx, hb, hml, hown, hts, hnw, hK, hA, hZ, hT, hce, hsl⟩ := F
  simp only [bz_getL] at h
  split at h
  · rename_i o r
    cases hb0 : bz_isO o ci with
    | false => rw [hb0] at h; cases h
    | true =>
      rw [hb0] at h
      simp only [cond_true, Option.some.injEq, Prod.mk.injEq] at h
      obtain ⟨rfl, rfl⟩ := h
      obtain ⟨ps, hsh⟩ := bz_isO_sp hb0
      have hkN : k < N := by rw [← hN]; exact (List.getElem?_eq_some_iff.mp hk).1
      have hgd : (bz_fk ci).getD k 0 = kd := by rw [List.getD_eq_getElem?_getD, hk]; rfl
      refine va_get (D := D) (cl := vwCl) (ci := ci) (C := C) (T := T) (N := N) (ws := bz_W ad ca σ) (fs := (List.range (bz_fk ci).length).map (fun k => bz_fv ad σ o ps k ((bz_fk ci).getD k 0))) hx hb hts hin hown hK hP o (bz_W_at hsh) hcl k hkN (hts _ hw) (fun _ h9 => h9) (v := .long (σ.2 o k)) ?_ hd (kk hn H locs ls hP hD hS hl)
      rw [List.getElem?_map, List.getElem?_range (by rw [hN]; exact hkN), Option.map_some, hgd]
      subst hkd; rfl
  · cases h
theorem bz_o_getR {ci k idx N kd : Nat} {C : String} {T : u_T} (hcl : vwCl[ci]? = some (C, T, N)) (hin : ∀ w ∈ u_ws C T N, w ∈ bz_TB) (hN : (bz_fk ci).length = N) (hk : (bz_fk ci)[k]? = some kd) (hw : Cond.fieldLink own idx (T k).1 (T k).2.1 (T k).2.2.1 ∈ bz_TB) (hkd : kd = 2) (hd : decode bytes pc = .ok (.getfield idx, 3)) : bz_ok own bytes pc (bz_getR ci k) := by
  intro X p l e R s m args below meth c Qf A ad ca D cells slots nL F L st σ g b h hg kk hn H locs ls hP hD hS hl
  obtain ⟨hx, hb, hml, hown, hts, hnw, hK, hA, hZ, hT, hce, hsl⟩ := F
  simp only [bz_getR] at h
  split at h
  · rename_i o r
    cases hb0 : bz_isO o ci with
    | false => rw [hb0] at h; cases h
    | true =>
      rw [hb0] at h
      simp only [cond_true, Option.some.injEq, Prod.mk.injEq] at h
      obtain ⟨rfl, rfl⟩ := h
      obtain ⟨ps, hsh⟩ := bz_isO_sp hb0
      have hkN : k < N := by rw [← hN]; exact (List.getElem?_eq_some_iff.mp hk).1
      have hgd : (bz_fk ci).getD k 0 = kd := by rw [List.getD_eq_getElem?_getD, hk]; rfl
      refine va_get (D := D) (cl := vwCl) (ci := ci) (C := C) (T := T) (N := N) (ws := bz_W ad ca σ) (fs := (List.range (bz_fk ci).length).map (fun k => bz_fv ad σ o ps k ((bz_fk ci).getD k 0))) hx hb hts hin hown hK hP o (bz_W_at hsh) hcl k hkN (hts _ hw) (fun _ h9 => h9) (v := .ref (ad (bz_ref o k))) ?_ hd (kk hn H locs ls hP hD hS hl)
      rw [List.getElem?_map, List.getElem?_range (by rw [hN]; exact hkN), Option.map_some, hgd]
      subst hkd; simp [bz_fv, bz_ref, hsh]
  · cases h
theorem bz_o_putI {ci k idx N kd : Nat} {C : String} {T : u_T} (hcl : vwCl[ci]? = some (C, T, N)) (hin : ∀ w ∈ u_ws C T N, w ∈ bz_TB) (hN : (bz_fk ci).length = N) (hk : (bz_fk ci)[k]? = some kd) (hw : Cond.fieldLink own idx (T k).1 (T k).2.1 (T k).2.2.1 ∈ bz_TB) (ty : Nat → FieldType) (hty : ∀ k, k < N → parseFieldDescriptor (T k).2.2.1 = some (ty k)) (hnm : ∀ a, a < N → ∀ b, b < N → a ≠ b → (T a).2.1 ≠ (T b).2.1) (hfin : (T k).2.2.2 = false) (hkd : kd = 0) (htk : ty k = .int) (hd : decode bytes pc = .ok (.putfield idx, 3)) : bz_ok own bytes pc (bz_putI ci k) := by
  intro X p l e R s m args below meth c Qf A ad ca D cells slots nL F L st σ g b h hg kk hn H locs ls hP hD hS hl
  obtain ⟨hx, hb, hml, hown, hts, hnw, hK, hA, hZ, hT, hce, hsl⟩ := F
  simp only [bz_putI] at h
  split at h
  · rename_i x o r
    cases hb0 : bz_isO o ci with
    | false => rw [hb0] at h; cases h
    | true =>
      rw [hb0] at h
      simp only [cond_true, Option.some.injEq, Prod.mk.injEq] at h
      obtain ⟨rfl, rfl⟩ := h
      obtain ⟨ps, hsh⟩ := bz_isO_sp hb0
      have hkN : k < N := by rw [← hN]; exact (List.getElem?_eq_some_iff.mp hk).1
      have hgd : (bz_fk ci).getD k 0 = kd := by rw [List.getD_eq_getElem?_getD, hk]; rfl
      refine va_put (D := D) (cl := vwCl) (ci := ci) (C := C) (T := T) (N := N) (v := .int x) (ws := bz_W ad ca σ) (fs := (List.range (bz_fk ci).length).map (fun k => bz_fv ad σ o ps k ((bz_fk ci).getD k 0))) hx hb hts hin ty hty hnm hown hK hP hD hS o (bz_W_at hsh) hcl k hkN (hts _ hw) (fun _ h9 => h9) hfin (hty k hkN) (by rw [htk]; rfl) (by rw [htk]; rfl) (by simp [hN, hkN]) hd (fun H1 locs1 hP1 hD1 hS1 => ?_)
      have e1 : (bz_W ad ca σ).set o (ad o, .inr (ci, ((List.range (bz_fk ci).length).map (fun k => bz_fv ad σ o ps k ((bz_fk ci).getD k 0))).set k (.int x))) = bz_W ad ca (bz_up σ.1 o k x, σ.2) := by
        refine bz_W_set hsh ?_ (fun q hq j => ⟨?_, ?_⟩)
        · rw [bz_fs_set (σ' := (bz_up σ.1 o k x, σ.2)) (by rw [hgd]; subst hkd; simp [bz_fv, bz_up_s]) (fun j hj => ⟨?_, ?_⟩)]
          · rfl
          · first | rfl | exact bz_up_k hj
          · first | rfl | exact bz_up_k hj
        · first | rfl | exact bz_up_o hq
        · first | rfl | exact bz_up_o hq
      rw [e1] at hP1 hD1
      exact kk hn H1 locs1 ls hP1 hD1 hS1 hl
  · cases h
theorem bz_o_putZ {ci k idx N kd : Nat} {C : String} {T : u_T} (hcl : vwCl[ci]? = some (C, T, N)) (hin : ∀ w ∈ u_ws C T N, w ∈ bz_TB) (hN : (bz_fk ci).length = N) (hk : (bz_fk ci)[k]? = some kd) (hw : Cond.fieldLink own idx (T k).1 (T k).2.1 (T k).2.2.1 ∈ bz_TB) (ty : Nat → FieldType) (hty : ∀ k, k < N → parseFieldDescriptor (T k).2.2.1 = some (ty k)) (hnm : ∀ a, a < N → ∀ b, b < N → a ≠ b → (T a).2.1 ≠ (T b).2.1) (hfin : (T k).2.2.2 = false) (hkd : kd = 3) (htk : ty k = .boolean) (hd : decode bytes pc = .ok (.putfield idx, 3)) : bz_ok own bytes pc (bz_putZ ci k) := by
  intro X p l e R s m args below meth c Qf A ad ca D cells slots nL F L st σ g b h hg kk hn H locs ls hP hD hS hl
  obtain ⟨hx, hb, hml, hown, hts, hnw, hK, hA, hZ, hT, hce, hsl⟩ := F
  simp only [bz_putZ] at h
  split at h
  · rename_i x o r
    cases hb0 : bz_isO o ci with
    | false => rw [hb0] at h; cases h
    | true =>
      rw [hb0] at h
      simp only [cond_true, Option.some.injEq, Prod.mk.injEq] at h
      obtain ⟨rfl, rfl⟩ := h
      obtain ⟨ps, hsh⟩ := bz_isO_sp hb0
      have hkN : k < N := by rw [← hN]; exact (List.getElem?_eq_some_iff.mp hk).1
      have hgd : (bz_fk ci).getD k 0 = kd := by rw [List.getD_eq_getElem?_getD, hk]; rfl
      refine va_put (D := D) (cl := vwCl) (ci := ci) (C := C) (T := T) (N := N) (v := .int x) (ws := bz_W ad ca σ) (fs := (List.range (bz_fk ci).length).map (fun k => bz_fv ad σ o ps k ((bz_fk ci).getD k 0))) hx hb hts hin ty hty hnm hown hK hP hD hS o (bz_W_at hsh) hcl k hkN (hts _ hw) (fun _ h9 => h9) hfin (hty k hkN) (by rw [htk]; rcases hg.1 with q | q <;> rw [q] <;> rfl) (by rw [htk]; rcases hg.1 with q | q <;> rw [q] <;> rfl) (by simp [hN, hkN]) hd (fun H1 locs1 hP1 hD1 hS1 => ?_)
      have e1 : (bz_W ad ca σ).set o (ad o, .inr (ci, ((List.range (bz_fk ci).length).map (fun k => bz_fv ad σ o ps k ((bz_fk ci).getD k 0))).set k (.int x))) = bz_W ad ca (bz_up σ.1 o k x, σ.2) := by
        refine bz_W_set hsh ?_ (fun q hq j => ⟨?_, ?_⟩)
        · rw [bz_fs_set (σ' := (bz_up σ.1 o k x, σ.2)) (by rw [hgd]; subst hkd; simp [bz_fv, bz_up_s]) (fun j hj => ⟨?_, ?_⟩)]
          · rfl
          · first | rfl | exact bz_up_k hj
          · first | rfl | exact bz_up_k hj
        · first | rfl | exact bz_up_o hq
        · first | rfl | exact bz_up_o hq
      rw [e1] at hP1 hD1
      exact kk hn H1 locs1 ls hP1 hD1 hS1 hl
  · cases h
theorem bz_o_putL {ci k idx N kd : Nat} {C : String} {T : u_T} (hcl : vwCl[ci]? = some (C, T, N)) (hin : ∀ w ∈ u_ws C T N, w ∈ bz_TB) (hN : (bz_fk ci).length = N) (hk : (bz_fk ci)[k]? = some kd) (hw : Cond.fieldLink own idx (T k).1 (T k).2.1 (T k).2.2.1 ∈ bz_TB) (ty : Nat → FieldType) (hty : ∀ k, k < N → parseFieldDescriptor (T k).2.2.1 = some (ty k)) (hnm : ∀ a, a < N → ∀ b, b < N → a ≠ b → (T a).2.1 ≠ (T b).2.1) (hfin : (T k).2.2.2 = false) (hkd : kd = 1) (htk : ty k = .long) (hd : decode bytes pc = .ok (.putfield idx, 3)) : bz_ok own bytes pc (bz_putL ci k) := by
  intro X p l e R s m args below meth c Qf A ad ca D cells slots nL F L st σ g b h hg kk hn H locs ls hP hD hS hl
  obtain ⟨hx, hb, hml, hown, hts, hnw, hK, hA, hZ, hT, hce, hsl⟩ := F
  simp only [bz_putL] at h
  split at h
  · rename_i x o r
    cases hb0 : bz_isO o ci with
    | false => rw [hb0] at h; cases h
    | true =>
      rw [hb0] at h
      simp only [cond_true, Option.some.injEq, Prod.mk.injEq] at h
      obtain ⟨rfl, rfl⟩ := h
      obtain ⟨ps, hsh⟩ := bz_isO_sp hb0
      have hkN : k < N := by rw [← hN]; exact (List.getElem?_eq_some_iff.mp hk).1
      have hgd : (bz_fk ci).getD k 0 = kd := by rw [List.getD_eq_getElem?_getD, hk]; rfl
      refine va_put (D := D) (cl := vwCl) (ci := ci) (C := C) (T := T) (N := N) (v := .long x) (ws := bz_W ad ca σ) (fs := (List.range (bz_fk ci).length).map (fun k => bz_fv ad σ o ps k ((bz_fk ci).getD k 0))) hx hb hts hin ty hty hnm hown hK hP hD hS o (bz_W_at hsh) hcl k hkN (hts _ hw) (fun _ h9 => h9) hfin (hty k hkN) (by rw [htk]; rfl) (by rw [htk]; rfl) (by simp [hN, hkN]) hd (fun H1 locs1 hP1 hD1 hS1 => ?_)
      have e1 : (bz_W ad ca σ).set o (ad o, .inr (ci, ((List.range (bz_fk ci).length).map (fun k => bz_fv ad σ o ps k ((bz_fk ci).getD k 0))).set k (.long x))) = bz_W ad ca (σ.1, bz_up σ.2 o k x) := by
        refine bz_W_set hsh ?_ (fun q hq j => ⟨?_, ?_⟩)
        · rw [bz_fs_set (σ' := (σ.1, bz_up σ.2 o k x)) (by rw [hgd]; subst hkd; simp [bz_fv, bz_up_s]) (fun j hj => ⟨?_, ?_⟩)]
          · rfl
          · first | rfl | exact bz_up_k hj
          · first | rfl | exact bz_up_k hj
        · first | rfl | exact bz_up_o hq
        · first | rfl | exact bz_up_o hq
      rw [e1] at hP1 hD1
      exact kk hn H1 locs1 ls hP1 hD1 hS1 hl
  · cases h
theorem bz_o_zald (hd : decode bytes pc = .ok (.baload, 1)) : bz_ok own bytes pc (bz_zald) := by
  intro X p l e R s m args below meth c Qf A ad ca D cells slots nL F L st σ g b h hg kk hn H locs ls hP hD hS hl
  obtain ⟨hx, hb, hml, hown, hts, hnw, hK, hA, hZ, hT, hce, hsl⟩ := F
  simp only [bz_zald] at h
  split at h
  · rename_i i o r
    split at h
    · rename_i n hA0
      simp only [Option.some.injEq, Prod.mk.injEq] at h
      obtain ⟨rfl, rfl⟩ := h
      obtain ⟨rs, hsh⟩ := bz_isA_sp hA0
      exact va_zald (ws := bz_W ad ca σ) (tys := bz_tys ca) hx hb hK hP o 2 (bz_W_at hsh) rfl hg.1 hd (kk hn H locs ls hP hD hS hl)
    · cases h
  · cases h
theorem bz_o_lald (hd : decode bytes pc = .ok (.laload, 1)) : bz_ok own bytes pc (bz_lald) := by
  intro X p l e R s m args below meth c Qf A ad ca D cells slots nL F L st σ g b h hg kk hn H locs ls hP hD hS hl
  obtain ⟨hx, hb, hml, hown, hts, hnw, hK, hA, hZ, hT, hce, hsl⟩ := F
  simp only [bz_lald] at h
  split at h
  · rename_i i o r
    split at h
    · rename_i n hA0
      simp only [Option.some.injEq, Prod.mk.injEq] at h
      obtain ⟨rfl, rfl⟩ := h
      obtain ⟨rs, hsh⟩ := bz_isA_sp hA0
      exact va_lald (ws := bz_W ad ca σ) (tys := bz_tys ca) hx hb hK hP o 1 (bz_W_at hsh) rfl hg.1 hd (kk hn H locs ls hP hD hS hl)
    · cases h
  · cases h
theorem bz_o_aald (hd : decode bytes pc = .ok (.aaload, 1)) : bz_ok own bytes pc (bz_aald) := by
  intro X p l e R s m args below meth c Qf A ad ca D cells slots nL F L st σ g b h hg kk hn H locs ls hP hD hS hl
  obtain ⟨hx, hb, hml, hown, hts, hnw, hK, hA, hZ, hT, hce, hsl⟩ := F
  simp only [bz_aald] at h
  split at h
  · rename_i i o r
    split at h
    · rename_i n hA0
      simp only [Option.some.injEq, Prod.mk.injEq] at h
      obtain ⟨rfl, rfl⟩ := h
      obtain ⟨rs, hsh⟩ := bz_isA_sp hA0
      have k0 := (kk hn H locs ls hP hD hS hl)
      have er : bz_ref o i.toNatClampNeg = (n :: rs).getD (i.toNatClampNeg + 1) 0 := by simp [bz_ref, hsh]
      rw [er] at k0
      exact va_aldq (ws := bz_W ad ca σ) (tys := bz_tys ca) hx hb hK hP o 3 (bz_W_at hsh) rfl hg.1 hd k0
    · cases h
  · cases h
theorem bz_o_iald (hd : decode bytes pc = .ok (.iaload, 1)) : bz_ok own bytes pc (bz_iald) := by
  intro X p l e R s m args below meth c Qf A ad ca D cells slots nL F L st σ g b h hg kk hn H locs ls hP hD hS hl
  obtain ⟨hx, hb, hml, hown, hts, hnw, hK, hA, hZ, hT, hce, hsl⟩ := F
  simp only [bz_iald] at h
  split at h
  · rename_i i o r
    cases hb0 : Nat.blt o 1000 with
    | true =>
      rw [hb0] at h
      simp only [cond_true] at h
      split at h
      · rename_i n hA0
        simp only [Option.some.injEq, Prod.mk.injEq] at h
        obtain ⟨rfl, rfl⟩ := h
        obtain ⟨rs, hsh⟩ := bz_isA_sp hA0
        exact va_iald (ws := bz_W ad ca σ) (tys := bz_tys ca) hx hb hK hP o 0 (bz_W_at hsh) rfl hg.1 hd (kk hn H locs ls hP hD hS hl)
      · cases h
    | false =>
      rw [hb0] at h
      simp only [cond_false] at h
      cases hb1 : Nat.blt o 1004 with
      | false => rw [hb1] at h; cases h
      | true =>
        rw [hb1] at h
        simp only [cond_true, Option.some.injEq, Prod.mk.injEq] at h
        obtain ⟨rfl, rfl⟩ := h
        have h1 : ¬ o < 1000 := fun z => by
          have : Nat.blt o 1000 = true := Nat.ble_eq_true_of_le z
          rw [this] at hb0; cases hb0
        have h2 : o < 1004 := Nat.le_of_ble_eq_true hb1
        obtain ⟨j, hj4, rfl⟩ : ∃ j, j < 4 ∧ o = 1000 + j := bz_o1000 o h1 h2
        rw [Nat.add_sub_cancel_left] at hg kk
        exact va_ti hx hb (hT j hj4) hS hg.1 rfl hd (kk hn H locs ls hP hD hS hl)
  · cases h
theorem bz_o_iast (hd : decode bytes pc = .ok (.iastore, 1)) : bz_ok own bytes pc (bz_iast) := by
  intro X p l e R s m args below meth c Qf A ad ca D cells slots nL F L st σ g b h hg kk hn H locs ls hP hD hS hl
  obtain ⟨hx, hb, hml, hown, hts, hnw, hK, hA, hZ, hT, hce, hsl⟩ := F
  simp only [bz_iast] at h
  split at h
  · rename_i x i o r
    split at h
    · rename_i n hA0
      simp only [Option.some.injEq, Prod.mk.injEq] at h
      obtain ⟨rfl, rfl⟩ := h
      obtain ⟨rs, hsh⟩ := bz_isA_sp hA0
      refine va_iast (n := n) (f := σ.1 o) (ws := bz_W ad ca σ) (tys := bz_tys ca) hx hb hK hP hD hS o 0 (bz_W_at hsh) rfl hg.1 hd (fun H1 locs1 hP1 hD1 hS1 => ?_)
      have e1 : (bz_W ad ca σ).set o (ad o, .inl (ca 0, n, .inl (upd (σ.1 o) i.toNatClampNeg x))) = bz_W ad ca (bz_up σ.1 o i.toNatClampNeg x, σ.2) := by
        refine bz_W_set hsh ?_ (fun q hq j => ⟨?_, ?_⟩)
        · refine congrArg (fun f => (Sum.inl (ca 0, n, .inl f) : va_E)) ?_
          funext j
          simp [bz_up, upd, vp_updL]
        · first | rfl | exact bz_up_o hq
        · first | rfl | exact bz_up_o hq
      rw [e1] at hP1 hD1
      exact kk hn H1 locs1 ls hP1 hD1 hS1 hl
    · cases h
  · cases h
theorem bz_o_last (hd : decode bytes pc = .ok (.lastore, 1)) : bz_ok own bytes pc (bz_last) := by
  intro X p l e R s m args below meth c Qf A ad ca D cells slots nL F L st σ g b h hg kk hn H locs ls hP hD hS hl
  obtain ⟨hx, hb, hml, hown, hts, hnw, hK, hA, hZ, hT, hce, hsl⟩ := F
  simp only [bz_last] at h
  split at h
  · rename_i x i o r
    split at h
    · rename_i n hA0
      simp only [Option.some.injEq, Prod.mk.injEq] at h
      obtain ⟨rfl, rfl⟩ := h
      obtain ⟨rs, hsh⟩ := bz_isA_sp hA0
      refine va_last (n := n) (f := σ.2 o) (ws := bz_W ad ca σ) (tys := bz_tys ca) hx hb hK hP hD hS o 1 (bz_W_at hsh) rfl hg.1 hd (fun H1 locs1 hP1 hD1 hS1 => ?_)
      have e1 : (bz_W ad ca σ).set o (ad o, .inl (ca 1, n, .inr (.inl (vp_updL (σ.2 o) i.toNatClampNeg x)))) = bz_W ad ca (σ.1, bz_up σ.2 o i.toNatClampNeg x) := by
        refine bz_W_set hsh ?_ (fun q hq j => ⟨?_, ?_⟩)
        · refine congrArg (fun f => (Sum.inl (ca 1, n, .inr (.inl f)) : va_E)) ?_
          funext j
          simp [bz_up, upd, vp_updL]
        · first | rfl | exact bz_up_o hq
        · first | rfl | exact bz_up_o hq
      rw [e1] at hP1 hD1
      exact kk hn H1 locs1 ls hP1 hD1 hS1 hl
    · cases h
  · cases h
theorem bz_o_zast (hd : decode bytes pc = .ok (.bastore, 1)) : bz_ok own bytes pc (bz_zast) := by
  intro X p l e R s m args below meth c Qf A ad ca D cells slots nL F L st σ g b h hg kk hn H locs ls hP hD hS hl
  obtain ⟨hx, hb, hml, hown, hts, hnw, hK, hA, hZ, hT, hce, hsl⟩ := F
  simp only [bz_zast] at h
  split at h
  · rename_i x i o r
    split at h
    · rename_i n hA0
      simp only [Option.some.injEq, Prod.mk.injEq] at h
      obtain ⟨rfl, rfl⟩ := h
      obtain ⟨rs, hsh⟩ := bz_isA_sp hA0
      refine va_zast (n := n) (f := σ.1 o) (ws := bz_W ad ca σ) (tys := bz_tys ca) hx hb hK hP hD hS o 2 (bz_W_at hsh) rfl hg.1.1 hd (fun H1 locs1 hP1 hD1 hS1 => ?_)
      have ez : vp_nar .boolean x = x := by rcases hg.1.2 with q | q <;> rw [q] <;> rfl
      rw [ez] at hP1 hD1
      have e1 : (bz_W ad ca σ).set o (ad o, .inl (ca 2, n, .inl (upd (σ.1 o) i.toNatClampNeg x))) = bz_W ad ca (bz_up σ.1 o i.toNatClampNeg x, σ.2) := by
        refine bz_W_set hsh ?_ (fun q hq j => ⟨?_, ?_⟩)
        · refine congrArg (fun f => (Sum.inl (ca 2, n, .inl f) : va_E)) ?_
          funext j
          simp [bz_up, upd, vp_updL]
        · first | rfl | exact bz_up_o hq
        · first | rfl | exact bz_up_o hq
      rw [e1] at hP1 hD1
      exact kk hn H1 locs1 ls hP1 hD1 hS1 hl
    · cases h
  · cases h
theorem bz_o_slen (hd : decode bytes pc = .ok (.arraylength, 1)) : bz_ok own bytes pc (bz_slen) := by
  intro X p l e R s m args below meth c Qf A ad ca D cells slots nL F L st σ g b h hg kk hn H locs ls hP hD hS hl
  obtain ⟨hx, hb, hml, hown, hts, hnw, hK, hA, hZ, hT, hce, hsl⟩ := F
  simp only [bz_slen] at h
  split at h
  · rename_i o r
    cases hb0 : Nat.beq o 1003 with
    | false => rw [hb0] at h; cases h
    | true =>
      rw [hb0] at h
      simp only [cond_true, Option.some.injEq, Prod.mk.injEq] at h
      obtain ⟨rfl, rfl⟩ := h
      have : o = 1000 + 3 := Nat.eq_of_beq_eq_true hb0
      subst this
      exact va_tlen hx hb (hT 3 (by omega)) hS rfl hd (kk hn H locs ls hP hD hS hl)
  · cases h
theorem bz_o_gets {i idx : Nat} (hi : i < 3) (hd : decode bytes pc = .ok (.getstatic idx, 3)) (hw : Cond.fieldLink own idx "BaizeCorps" (bz_sn i) "[I" ∈ bz_TB) : bz_ok own bytes pc (bz_push (.ref (1000 + i)) 3) := by
  intro X p l e R s m args below meth c Qf A ad ca D cells slots nL F L st σ g b h hg kk hn H locs ls hP hD hS hl
  obtain ⟨hx, hb, hml, hown, hts, hnw, hK, hA, hZ, hT, hce, hsl⟩ := F
  simp only [bz_push, Option.some.injEq, Prod.mk.injEq] at h
  obtain ⟨rfl, rfl⟩ := h
  exact va_gets hx hb (hZ i hi) hS hown (hts _ hw) (fun _ h9 => h9) hd (kk hn H locs ls hP hD hS hl)
theorem bz_o_getsN {i idx : Nat} {host : String} (hi : i < 3) (hd : decode bytes pc = .ok (.getstatic idx, 3)) (hw : Cond.fieldLinkNest own idx "BaizeCorps" (bz_sn i) "[I" host ∈ bz_NB) : bz_ok own bytes pc (bz_push (.ref (1000 + i)) 3) := by
  intro X p l e R s m args below meth c Qf A ad ca D cells slots nL F L st σ g b h hg kk hn H locs ls hP hD hS hl
  obtain ⟨hx, hb, hml, hown, hts, hnw, hK, hA, hZ, hT, hce, hsl⟩ := F
  simp only [bz_push, Option.some.injEq, Prod.mk.injEq] at h
  obtain ⟨rfl, rfl⟩ := h
  exact va_getsN hx hb (hZ i hi) hS hown (va_Nw.use rfl (hnw _ hw)) (fun _ h9 => h9) hd (kk hn H locs ls hP hD hS hl)
theorem bz_o_table {df lo hi : Int} {offs : Array Int} {len d : Nat} {ts : List Nat} (hd : decode bytes pc = .ok (.tableswitch df lo hi offs, len)) (h1 : hi + 1 = lo + ts.length) (h2 : offs.toList.map (fun o => (pc : Int) + o) = ts.map (fun (t : Nat) => (t : Int))) (h3 : (pc : Int) + df = d) : bz_ok own bytes pc (bz_switch (bz_mk lo ts) d) := by
  intro X p l e R s m args below meth c Qf A ad ca D cells slots nL F L st σ g b h hg kk hn H locs ls hP hD hS hl
  obtain ⟨hx, hb, hml, hown, hts, hnw, hK, hA, hZ, hT, hce, hsl⟩ := F
  simp only [bz_switch] at h
  split at h
  · rename_i x r
    simp only [Option.some.injEq, Prod.mk.injEq] at h
    obtain ⟨rfl, rfl⟩ := h
    obtain ⟨i1, i2⟩ := bz_sw_mk d x.toInt ts lo
    by_cases hlo : x.toInt < lo ∨ hi < x.toInt
    · rw [i1 (by omega)] at kk
      exact lv_tableOut hx hb hd hlo h3 (kk hn H locs ls hP hD hS hl)
    · have hi1 : lo ≤ x.toInt := by omega
      have hi2 : x.toInt < lo + ts.length := by omega
      rw [i2 hi1 hi2] at kk
      have hj : (x.toInt - lo).toNat < ts.length := by omega
      have hlen : offs.toList.length = ts.length := by have := congrArg List.length h2; simpa using this
      have hj2 : (x.toInt - lo).toNat < offs.size := by rw [← Array.length_toList, hlen]; exact hj
      have e1 : (offs.toList.map (fun o => (pc : Int) + o))[(x.toInt - lo).toNat]? = (ts.map (fun (t : Nat) => (t : Int)))[(x.toInt - lo).toNat]? := by rw [h2]
      have e2 : offs.toList[(x.toInt - lo).toNat]? = some (offs[(x.toInt - lo).toNat]'hj2) := by simp [hj2]
      have e3 : ts[(x.toInt - lo).toNat]? = some (ts[(x.toInt - lo).toNat]'hj) := List.getElem?_eq_getElem hj
      rw [List.getElem?_map, List.getElem?_map, e2, e3] at e1
      simp only [Option.map_some, Option.some.injEq] at e1
      have e4 : ts.getD (x.toInt - lo).toNat 0 = ts[(x.toInt - lo).toNat]'hj := by rw [List.getD_eq_getElem?_getD, e3]; rfl
      rw [e4] at kk
      exact lv_tableIn hx hb hd (by omega) (by omega) (off := offs[(x.toInt - lo).toNat]'hj2) (by simp [hj2]) e1 (kk hn H locs ls hP hD hS hl)
  · cases h
theorem bz_o_lookup {df : Int} {ps : Array (Int × Int)} {len d : Nat} {cs : List (Int × Nat)} (hd : decode bytes pc = .ok (.lookupswitch df ps, len)) (h1 : (ps.toList.zip (ps.toList.drop 1)).all (fun (a, next) => a.1 < next.1) = true) (h2 : ps.toList.map (fun q => (q.1, (pc : Int) + q.2)) = cs.map (fun q => (q.1, (q.2 : Int)))) (h3 : (pc : Int) + df = d) : bz_ok own bytes pc (bz_switch cs d) := by
  intro X p l e R s m args below meth c Qf A ad ca D cells slots nL F L st σ g b h hg kk hn H locs ls hP hD hS hl
  obtain ⟨hx, hb, hml, hown, hts, hnw, hK, hA, hZ, hT, hce, hsl⟩ := F
  simp only [bz_switch] at h
  split at h
  · rename_i x r
    simp only [Option.some.injEq, Prod.mk.injEq] at h
    obtain ⟨rfl, rfl⟩ := h
    exact lv_lookup hx hb hd h1 rfl (bz_sw_lk pc df d x.toInt h3 ps.toList cs h2) (kk hn H locs ls hP hD hS hl)
  · cases h
end OK
end
section
/-! CALLS AND ANSWERS: a contract of the small machine is one of the kit's -/
/-- the answers of a frame -/
def bz_H (T : List bz_E) (Q : bz_Q) (p : Program) (l : Launch) (e : Env) (R : Room) (s : State) (m : MethodId) (args : Array Value) (below : List Frame) (meth : Method) (c : Code) (Qf : State → Prop) (A : Nat → Prop) (ad : Nat → Nat) (ca : Nat → ClassId) (D : va_G) (cells slots nL : Nat) : Prop := ∀ (pc j : Nat) (st : List Value) (v : Option Value) (σ : bz_S), bz_lk T pc = some (.inr (.inr j)) → bz_rv j st = some v → bz_rg j st → Q v σ → ∀ (H : Heap) (locs : List Loc) (ls : Array Slot), va_P D vwCl (bz_W ad ca σ) H → va_D A (bz_W ad ca σ) → va_S A s.heap H locs → W p l e R s m args below meth c H locs cells slots Qf (F0 m pc ls (st.map (bz_cz ad)))
def bz_snd (P : Nat → bz_M) (l : Launch) (X : bz_X) (k : Nat) (Q : bz_Q) (a : bz_A) : Prop := ∀ (p : Program) (e : Env) (R : Room) (s : State) (m : MethodId) (args : Array Value) (below : List Frame) (meth : Method) (c : Code) (Qf : State → Prop) (A : Nat → Prop) (ad : Nat → Nat) (ca : Nat → ClassId) (D : va_G) (cells slots nL : Nat), bz_F X (P k).1 (P k).2.2.1 p l e R s m args below meth c Qf A ad ca D cells slots nL → (P k).2.2.2.2.2.1 ≤ R.frames → (P k).2.2.2.2.2.2.1 ≤ R.locals → nL = (P k).2.2.2.1 → bz_H (P k).2.2.2.2.2.2.2 Q p l e R s m args below meth c Qf A ad ca D cells slots nL → bz_R p l e R s m args below meth c Qf A ad ca D cells slots nL a
def bz_ws (M : bz_M) : List Cond := .code M.2.1 M.2.2.1 M.2.2.2.1 M.2.2.2.2.1 :: bz_TB
def bz_rm (M : bz_M) : Room := { frames := M.2.2.2.2.2.1, cells := 0, slots := 0, locals := M.2.2.2.2.2.2.1 }
def bz_Pic (X : bz_X) (ad : Nat → Nat) (ca : Nat → ClassId) (D : va_G) (σ : bz_S) (sz : Nat) : State → Prop := fun U => U.heap.size = sz ∧ va_P D vwCl (bz_W ad ca σ) U.heap ∧ va_K D vwCl (bz_tys ca) U ∧ va_D (fun _ => True) (bz_W ad ca σ) ∧ (∀ w ∈ bz_NB, va_Nw w U) ∧ (∀ i, i < 3 → va_Z "BaizeCorps" (bz_sn i) "[I" (.ref (ad (1000 + i))) (va_A (bz_W ad ca σ) sz) U U.heap) ∧ (∀ i, i < 4 → va_T .int (ad (1000 + i)) (bz_tn X i) (fun j => .int (bz_tv X i j)) (va_A (bz_W ad ca σ) sz) U U.heap)
def bz_Qc (ad : Nat → Nat) (ca : Nat → ClassId) (D : va_G) (σ : bz_S) (sz : Nat) (Q : bz_Q) : Array Value → State → Outcome → State → Prop := fun _ st oc t =>
  (∃ (v : Option Value) (σ' : bz_S), oc = .returned v ∧ v.toList.map (bz_cz ad) = v.toList ∧ Q v σ' ∧ va_P D vwCl (bz_W ad ca σ') t.heap ∧ va_D (va_A (bz_W ad ca σ) sz) (bz_W ad ca σ')) ∧ va_F (va_A (bz_W ad ca σ) sz) st t
theorem bz_TB_mem {w : Cond} (h : w ∈ bz_TB) : w ∈ lw_tbl ∧ goodWord w = true := List.mem_filter.mp h
theorem bz_good {ws : List Cond} (h : ∀ w ∈ ws, w ∈ bz_TB) : GoodIn bz_TB ws := fun w hw => ⟨h w hw, good_of_word (bz_TB_mem (h w hw)).2⟩
theorem bz_NB_sp {w : Cond} (h : w ∈ bz_NB) : (∃ a i x h', w = .methodLinkNest a i x h') ∨ ∃ a i b n d h', w = .fieldLinkNest a i b n d h' := by
  have h2 := (List.mem_filter.mp h).2
  split at h2
  · exact Or.inl ⟨_, _, _, _, rfl⟩
  · exact Or.inr ⟨_, _, _, _, _, _, rfl⟩
  · cases h2
theorem bz_NB_warm {s U : State} (hW : s.WarmedH U.vm) (h : ∀ w ∈ bz_NB, va_Nw w s) : ∀ w ∈ bz_NB, va_Nw w U := by
  intro w hw
  have h1 := h w hw
  rcases bz_NB_sp hw with ⟨a, i, x, h', rfl⟩ | ⟨a, i, b, n, d, h', rfl⟩
  · exact va_Nw.warmM hW h1
  · exact va_Nw.warmF hW h1
theorem bz_NB_same {s U : State} (hv : s.vm = U.vm) (h : ∀ w ∈ bz_NB, va_Nw w s) : ∀ w ∈ bz_NB, va_Nw w U := by
  intro w hw
  have h1 := h w hw
  rcases bz_NB_sp hw with ⟨a, i, x, h', rfl⟩ | ⟨a, i, b, n, d, h', rfl⟩
  · exact va_Nw.same rfl hv h1
  · exact va_Nw.same rfl hv h1
theorem bz_blind {X : bz_X} {ad : Nat → Nat} {ca : Nat → ClassId} {D : va_G} {σ : bz_S} {sz : Nat} {av : List Value} : FrameBlind (va_Pc av (bz_Pic X ad ca D σ sz)) := by
  intro a U g mk h
  obtain ⟨h0, h1, h2, h3, h4, h5, h6, h7⟩ := h
  exact ⟨h0, h1, h2, va_K.moved (u := U) (U := U.calling g mk a) (Vm.Alike.refl U.vm) h3, h4, bz_NB_same (s := U) (U := U.calling g mk a) rfl h5, fun i hi => (h6 i hi).moved (U := U.calling g mk a) (Vm.Alike.refl U.vm), fun i hi => (h7 i hi).moved (U := U.calling g mk a) (Vm.Alike.refl U.vm)⟩
theorem bz_in0_mem (ad : Nat → Nat) : ∀ (as : List Value) (i j : Nat) (v : Value), (bz_in0 as)[j]? = some (some v) → (i + j, bz_cz ad v) ∈ lv_args i (as.map (bz_cz ad)) := by
  intro as
  induction as with
  | nil => intro i j v h; simp [bz_in0] at h
  | cons a r ih =>
    intro i j v h
    have one : bz_in0 (a :: r) = some a :: bz_in0 r → (bz_cz ad a).category ≠ 2 → (i + j, bz_cz ad v) ∈ lv_args i ((a :: r).map (bz_cz ad)) := by
      intro he hc
      rw [he] at h
      simp only [List.map_cons, lv_args, if_neg hc]
      cases j with
      | zero =>
        simp only [List.getElem?_cons_zero, Option.some.injEq] at h
        subst h
        exact List.mem_cons_self
      | succ j =>
        rw [List.getElem?_cons_succ] at h
        have := ih (i + 1) j v h
        rw [show i + 1 + j = i + (j + 1) by omega] at this
        exact List.mem_cons_of_mem _ this
    have two : bz_in0 (a :: r) = some a :: none :: bz_in0 r → (bz_cz ad a).category = 2 → (i + j, bz_cz ad v) ∈ lv_args i ((a :: r).map (bz_cz ad)) := by
      intro he hc
      rw [he] at h
      simp only [List.map_cons, lv_args, if_pos hc]
      cases j with
      | zero =>
        simp only [List.getElem?_cons_zero, Option.some.injEq] at h
        subst h
        exact List.mem_cons_self
      | succ j =>
        rw [List.getElem?_cons_succ] at h
        cases j with
        | zero => simp at h
        | succ j =>
          rw [List.getElem?_cons_succ] at h
          have := ih (i + 2) j v h
          rw [show i + 2 + j = i + (j + 1 + 1) by omega] at this
          exact List.mem_cons_of_mem _ this
    cases a with
    | long x => exact two rfl rfl
    | double x => exact two rfl rfl
    | int x => exact one rfl (fun z => by cases z)
    | float x => exact one rfl (fun z => by cases z)
    | null => exact one rfl (fun z => by cases z)
    | ref x => exact one rfl (fun z => by cases z)
    | retAddr x => exact one rfl (fun z => by cases z)
theorem bz_sl_len (ad : Nat → Nat) : ∀ as : List Value, (lg_sl (as.map (bz_cz ad))).length = (bz_in0 as).length := by
  intro as
  induction as with
  | nil => rfl
  | cons a r ih =>
    have e : lg_sl ((a :: r).map (bz_cz ad)) = (if (bz_cz ad a).category = 2 then [.val (bz_cz ad a), .second] else [.val (bz_cz ad a)]) ++ lg_sl (r.map (bz_cz ad)) := rfl
    rw [e, List.length_append, ih]
    cases a <;> simp [bz_in0, bz_cz, Value.category] <;> omega
theorem bz_in_mem {ad : Nat → Nat} {as : List Value} {n : Nat} : ∀ q ∈ bz_lv ad (bz_in n as), q ∈ lv_args 0 (as.map (bz_cz ad)) := by
  rintro ⟨j, w⟩ hq
  obtain ⟨v, hv, hw⟩ := bz_lv_mem.mp hq
  dsimp only at hv hw
  subst hw
  unfold bz_in at hv
  by_cases hj : j < (bz_in0 as).length
  · rw [List.getElem?_append_left hj] at hv
    have := bz_in0_mem ad as 0 j v hv
    rwa [Nat.zero_add] at this
  · rw [List.getElem?_append_right (by omega), List.getElem?_replicate] at hv
    split at hv <;> cases hv
theorem bz_in_len {as : List Value} {n : Nat} (h : (bz_in0 as).length ≤ n) : (bz_in n as).length = n := by
  unfold bz_in
  rw [List.length_append, List.length_replicate]
  omega
theorem bz_rv_cz {ad : Nat → Nat} {j : Nat} {st : List Value} {v : Option Value} (h : bz_rv j st = some v) : v.toList.map (bz_cz ad) = v.toList ∧ st = v.toList := by
  unfold bz_rv at h
  split at h <;> cases h <;> exact ⟨rfl, rfl⟩
/-- what an answer's row is in the bytes -/
def bz_rok (bytes : ByteArray) (ret : Option FieldType) (pc j : Nat) : Prop := (j = 0 ∧ ret = none ∧ decode bytes pc = .ok (.return_, 1)) ∨ (j = 1 ∧ ret = some .int ∧ decode bytes pc = .ok (.ireturn, 1)) ∨ (j = 2 ∧ ret = some .long ∧ decode bytes pc = .ok (.lreturn, 1)) ∨ (j = 3 ∧ ret = some .boolean ∧ decode bytes pc = .ok (.ireturn, 1))
/-- the small machine's contract gives the kit's -/
theorem bz_met {P : Nat → bz_M} {l : Launch} {X : bz_X} {j : Nat} {Q : bz_Q} {as : List Value} {σ : bz_S} {ad : Nat → Nat} {ca : Nat → ClassId} {D : va_G} {sz : Nat} (hpn : plainName (P j).2.1.cls = true) (how : (P j).1 = (P j).2.1.cls) (hr : ∀ pc i, bz_lk (P j).2.2.2.2.2.2.2 pc = some (.inr (.inr i)) → bz_rok (P j).2.2.1 (P j).2.2.2.2.1 pc i) (hm : (bz_in0 as).length ≤ (P j).2.2.2.1) (h : bz_snd P l X j Q (0, bz_in (P j).2.2.2.1 as, [], σ)) :
    Met l (P j).2.1 (bz_ws (P j)) (bz_rm (P j)) (va_Pc (as.map (bz_cz ad)) (bz_Pic X ad ca D σ sz)) (bz_Qc ad ca D σ sz Q) 0 0 (va_A (bz_W ad ca σ) sz) := by
  refine Met.ofW (cc := (P j).2.2.1) (maxL := (P j).2.2.2.1) (ret := (P j).2.2.2.2.1) hpn rfl ?_
  intro p e s m args below meth c s₁ B hml hv
  obtain ⟨rfl, hsz, hP, hK, hD, hnw, hZ, hT⟩ := hv
  have hx := B.exec
  have hb := B.bytes
  have hrt := B.returns
  have hlocks := B.notSynchronized
  have hts0 := atoms_spec (ws := bz_ws (P j)) B.pre
  have hown : s.vm.findClass (P j).1 = some m.cls := by rw [how]; exact findClass_of_methodNamed B.named
  subst hsz
  have hS : va_S (va_A (bz_W ad ca σ) s.heap.size) s.heap s.heap [] := va_S.rf
  have F : bz_F X (P j).1 (P j).2.2.1 p l e (headSpec (bz_ws (P j)) (bz_rm (P j))).room s m (as.map (bz_cz ad)).toArray below meth c (MQ below (bz_Qc ad ca D σ s.heap.size Q) (as.map (bz_cz ad)).toArray s 0 0 (va_A (bz_W ad ca σ) s.heap.size)) (va_A (bz_W ad ca σ) s.heap.size) ad ca D 0 0 (P j).2.2.2.1 :=
    ⟨hx, hb, hml, hown, fun w hw => hts0 w (List.mem_cons_of_mem _ hw), hnw, hK, fun q hq => Or.inr hq, hZ, hT, Nat.zero_le _, Nat.zero_le _⟩
  have hH : bz_H (P j).2.2.2.2.2.2.2 Q p l e (headSpec (bz_ws (P j)) (bz_rm (P j))).room s m (as.map (bz_cz ad)).toArray below meth c (MQ below (bz_Qc ad ca D σ s.heap.size Q) (as.map (bz_cz ad)).toArray s 0 0 (va_A (bz_W ad ca σ) s.heap.size)) (va_A (bz_W ad ca σ) s.heap.size) ad ca D 0 0 (P j).2.2.2.1 := by
    intro pc i st v σ' hlk hv hg hQ H locs ls hP' hD' hS'
    obtain ⟨hvz, rfl⟩ := bz_rv_cz (ad := ad) hv
    have hq : ∀ t : State, t.heap = H → s.WarmedH t.vm → bz_Qc ad ca D σ s.heap.size Q (as.map (bz_cz ad)).toArray s (.returned v) t := fun t ht _ => ⟨⟨v, σ', rfl, hvz, hQ, by rw [ht]; exact hP', hD'⟩, hS'.F ht⟩
    rw [hvz]
    rcases hr pc i hlk with ⟨rfl, h1, h2⟩ | ⟨rfl, h1, h2⟩ | ⟨rfl, h1, h2⟩ | ⟨rfl, h1, h2⟩
    · cases v with
      | none => exact W.vret hx hb (hrt.trans h1) hq hS'.2.2 h2
      | some w => simp [bz_rv] at hv
    · cases v with
      | none => simp [bz_rv] at hv
      | some w =>
        cases w with
        | int x => exact W.iret hx hb (hrt.trans h1) hq hS'.2.2 h2
        | _ => simp [bz_rv] at hv
    · cases v with
      | none => simp [bz_rv] at hv
      | some w =>
        cases w with
        | long x => exact W.lret hx hb (hrt.trans h1) hq hS'.2.2 h2
        | _ => simp [bz_rv] at hv
    · cases v with
      | none => simp [bz_rv] at hv
      | some w =>
        cases w with
        | int x =>
          have hx1 : x = 0 ∨ x = 1 := hg
          exact W.zret hx hb (hrt.trans h1) (by rcases hx1 with q | q <;> rw [q] <;> rfl) hq hS'.2.2 h2
        | _ => simp [bz_rv] at hv
  have key := h _ _ _ _ _ _ _ _ _ _ _ _ _ _ _ _ _ F (Nat.le_refl _) (Nat.le_refl _) rfl hH (bz_in_len hm)
  have hl := lv_entry (as.map (bz_cz ad)) (n := (P j).2.2.2.1) (by rw [bz_sl_len]; exact hm)
  rw [lg_entry_eq]
  exact key s.heap [] _ hP hD.self hS (bz_lv_mono hl bz_in_mem)
theorem bz_AF {A : Nat → Prop} {ws : va_W} {H0 H : Heap} {locs : List Loc} (hD : va_D A ws) (hS : va_S A H0 H locs) (hA : ∀ q : Nat, H0.size ≤ q → A q) : ∀ q : Nat, va_A ws H.size q → A q := by
  intro q h
  rcases h with ⟨k, e, h⟩ | h
  · exact hD.2 k (q, e) h
  · exact hA q (Nat.le_trans hS.1 h)
section BC
variable {p : Program} {l : Launch} {e : Env} {R : Room} {s : State} {m : MethodId} {args : Array Value} {below : List Frame} {meth : Method} {c : Code} {Qf : State → Prop} {A : Nat → Prop} {ad : Nat → Nat} {ca : Nat → ClassId} {D : va_G} {cells slots nL : Nat}
theorem bz_goes {pc : Nat} {ls : Array Slot} {st0 rest : List Value} {σ : bz_S} {Qc : bz_Q} {H : Heap} {locs : List Loc} {a : Array Value} (hr : va_Run p l e R s m args below meth c H locs cells slots 0 0 (F0 m pc ls st0) (rest.map (bz_cz ad)) (bz_Qc ad ca D σ H.size Qc a) (va_A (bz_W ad ca σ) H.size)) (hS : va_S A s.heap H locs) (hD : va_D A (bz_W ad ca σ)) (hA : ∀ q : Nat, s.heap.size ≤ q → A q)
    (kk : ∀ (v : Option Value) (σ' : bz_S), Qc v σ' → ∀ (H1 : Heap) (locs1 : List Loc), va_P D vwCl (bz_W ad ca σ') H1 → va_D A (bz_W ad ca σ') → va_S A s.heap H1 locs1 → W p l e R s m args below meth c H1 locs1 cells slots Qf (F0 m (pc + 3) ls ((v.toList ++ rest).map (bz_cz ad)))) : W p l e R s m args below meth c H locs cells slots Qf (F0 m pc ls st0) := by
  intro T hT X
  obtain ⟨v, st₀, t, T', L, h0, X', hL, e1, e2, ⟨⟨v', σ', hv, hvz, hq, hP1, hD1⟩, hz, hk⟩, st⟩ := hr T hT X
  cases hv
  rw [h0] at hz hk
  have hF := bz_AF hD hS hA
  obtain ⟨t2, a1, b1⟩ := kk v σ' hq T'.heap (locs ++ L) (by rw [e1]; exact hP1) (hD1.weaken (fun k q _ h => hF q.1 h)) ⟨Nat.le_trans hS.1 (by rw [e1]; exact hz), fun q h1 h2 => by rw [e1, hk q (Nat.lt_of_lt_of_le h1 hS.1) (fun z => h2 (hF q z))]; exact hS.2.1 q h1 h2, fun q hq => by
      rcases List.mem_append.mp hq with h | h
      · exact hS.2.2 q h
      · exact hF _ (hL q h)⟩ T' rfl X'
  rw [List.map_append, hvz] at a1
  exact ⟨t2, st t2 a1, b1⟩
theorem bz_pic {X : bz_X} {own : String} {bytes : ByteArray} {σ : bz_S} {H : Heap} {locs : List Loc} {U : State} (F : bz_F X own bytes p l e R s m args below meth c Qf A ad ca D cells slots nL) (hP : va_P D vwCl (bz_W ad ca σ) H) (hD : va_D A (bz_W ad ca σ)) (hS : va_S A s.heap H locs) (hU : U.heap = H) (hW : s.WarmedH U.vm) : bz_Pic X ad ca D σ H.size U := by
  obtain ⟨hx, hb, hml, hown, hts, hnw, hK, hA, hZ, hT, hce, hsl⟩ := F
  have hF := bz_AF hD hS hA
  have hk : ∀ q : Nat, q < s.heap.size → ¬ A q → U.heap[q]? = s.heap[q]? := fun q h1 h2 => by rw [hU]; exact hS.2.1 q h1 h2
  exact ⟨by rw [hU], by rw [hU]; exact hP, va_K.moved hW.alike hK, hD.weaken (fun _ _ _ _ => trivial), bz_NB_warm hW hnw, fun i hi => (((hZ i hi).kept hk).moved hW.alike).narrow hF, fun i hi => (((hT i hi).kept hk).moved hW.alike).narrow hF⟩
end BC
/-- what a method that is called must be -/
def bz_mok (M : bz_M) : Prop := plainName M.2.1.cls = true ∧ M.1 = M.2.1.cls ∧ (∀ pc i, bz_lk M.2.2.2.2.2.2.2 pc = some (.inr (.inr i)) → bz_rok M.2.2.1 M.2.2.2.2.1 pc i) ∧ Cond.code M.2.1 M.2.2.1 M.2.2.2.1 M.2.2.2.2.1 ∈ bz_TB ∧ Cond.initialized M.2.1.cls ∈ bz_TB ∧ M.2.1.cls ≠ "java/lang/invoke/MethodHandle" ∧ M.2.1.cls ≠ "java/lang/invoke/VarHandle"
def bz_cok (P : Nat → bz_M) (l : Launch) (own : String) (bytes : ByteArray) (fr lo pc j n vk : Nat) : Prop := ∀ (X : bz_X) (p : Program) (e : Env) (R : Room) (s : State) (m : MethodId) (args : Array Value) (below : List Frame) (meth : Method) (c : Code) (Qf : State → Prop) (A : Nat → Prop) (ad : Nat → Nat) (ca : Nat → ClassId) (D : va_G) (cells slots nL : Nat), bz_F X own bytes p l e R s m args below meth c Qf A ad ca D cells slots nL → fr ≤ R.frames → lo ≤ R.locals → ∀ (L : List (Option Value)) (as rest : List Value) (σ : bz_S) (Qc : bz_Q), as.length = n → (bz_in0 as).length ≤ (P j).2.2.2.1 → bz_cat rest ≤ 8 → bz_rc vk as = true → bz_snd P l X j Qc (0, bz_in (P j).2.2.2.1 as, [], σ) → (∀ v σ', Qc v σ' → bz_R p l e R s m args below meth c Qf A ad ca D cells slots nL (pc + 3, L, v.toList ++ rest, σ')) → bz_R p l e R s m args below meth c Qf A ad ca D cells slots nL (pc, L, as.reverse ++ rest, σ)
theorem bz_cat_cz {ad : Nat → Nat} (st : List Value) : ((st.map (bz_cz ad)).map fun v => v.category).sum = bz_cat st := by
  simp [bz_cat, List.map_map, Function.comp_def, bz_cz_cat]
theorem bz_ws_in {M : bz_M} (h : Cond.code M.2.1 M.2.2.1 M.2.2.2.1 M.2.2.2.2.1 ∈ bz_TB) : ∀ w ∈ bz_ws M, w ∈ bz_TB := fun w hw => (List.mem_cons.mp hw).elim (fun e => e ▸ h) (fun h => h)
theorem bz_cS {P : Nat → bz_M} {l : Launch} {own : String} {bytes : ByteArray} {fr lo pc j n idx : Nat} (hj : bz_mok (P j)) (hd : decode bytes pc = .ok (.invokestatic idx, 3)) (hl : Cond.methodLink own idx (P j).2.1 ∈ bz_TB) (hs : Cond.static (P j).2.1 ∈ bz_TB) (hpar : (parseMethodDescriptor (P j).2.1.desc).map (fun d => d.parameters.length) = some n) (hfr : (P j).2.2.2.2.2.1 + 1 ≤ fr) (hlo : 8 + ((P j).2.2.2.1 + 11) + (P j).2.2.2.2.2.2.1 ≤ lo) : bz_cok P l own bytes fr lo pc j n 0 := by
  obtain ⟨hpn, how, hr, hcw, hiw, hy1, hy2⟩ := hj
  intro X p e R s m args below meth c Qf A ad ca D cells slots nL F hfR hlR L as rest σ Qc hn hm hcat hrc hsnd kk hnL H locs ls hP hD hS hlv
  have F0' := F
  obtain ⟨hx, hb, hml, hown, hts, hnw, hK, hA, hZ, hT, hce, hsl⟩ := F
  have hM := bz_met (ad := ad) (ca := ca) (D := D) (sz := H.size) hpn how hr hm hsnd
  have cw := va_cwS (R := R) (s := s) (args := args) (own := own) (index := idx) (rm := bz_rm (P j)) (mc := 0) (ms := 0) n hts (bz_good (ws := va_wsS own idx (P j).2.1 (bz_ws (P j))) (fun w hw => by
    rcases List.mem_append.mp hw with h | h
    · simp only [List.mem_cons, List.not_mem_nil, or_false] at h
      rcases h with rfl | rfl | rfl
      · exact hl
      · exact hs
      · exact hiw
    · exact bz_ws_in hcw w h)) rfl rfl rfl ⟨hy1, hy2, hpar⟩ ⟨Nat.le_trans hfr hfR, Nat.le_trans hlo hlR⟩
  refine bz_goes (st0 := (as.reverse ++ rest).map (bz_cz ad)) (va_runS (As := as.map (bz_cz ad)) (rest := rest.map (bz_cz ad)) ⟨hx, hb, hml, hown, hts⟩ hM cw ⟨bz_blind, fun U hU hW => ⟨rfl, bz_pic F0' hP hD hS hU hW⟩⟩ rfl (by simpa using hn) hlv.1 (by simp) (lv_room (by rw [bz_cat_cz]; exact hcat)) hd ⟨hce, hsl⟩) hS hD hA (fun v σ' hq H1 locs1 hP1 hD1 hS1 => kk v σ' hq hnL H1 locs1 ls hP1 hD1 hS1 hlv)
theorem bz_cN {P : Nat → bz_M} {l : Launch} {own host : String} {bytes : ByteArray} {fr lo pc j n idx : Nat} (hj : bz_mok (P j)) (hd : decode bytes pc = .ok (.invokestatic idx, 3)) (hl : Cond.methodLinkNest own idx (P j).2.1 host ∈ bz_NB) (hs : Cond.static (P j).2.1 ∈ bz_TB) (hpar : (parseMethodDescriptor (P j).2.1.desc).map (fun d => d.parameters.length) = some n) (hfr : (P j).2.2.2.2.2.1 + 1 ≤ fr) (hlo : 8 + ((P j).2.2.2.1 + 11) + (P j).2.2.2.2.2.2.1 ≤ lo) : bz_cok P l own bytes fr lo pc j n 0 := by
  obtain ⟨hpn, how, hr, hcw, hiw, hy1, hy2⟩ := hj
  intro X p e R s m args below meth c Qf A ad ca D cells slots nL F hfR hlR L as rest σ Qc hn hm hcat hrc hsnd kk hnL H locs ls hP hD hS hlv
  have F0' := F
  obtain ⟨hx, hb, hml, hown, hts, hnw, hK, hA, hZ, hT, hce, hsl⟩ := F
  have hM := bz_met (ad := ad) (ca := ca) (D := D) (sz := H.size) hpn how hr hm hsnd
  have cw := va_cnB (R := R) (s := s) (args := args) (own := own) (host := host) (index := idx) (rm := bz_rm (P j)) (mc := 0) (ms := 0) n hts (bz_good (bz_ws_in hcw)) rfl rfl rfl (hnw _ hl) (hts _ hiw) ⟨hy1, hy2, hpar⟩ ⟨Nat.le_trans hfr hfR, Nat.le_trans hlo hlR⟩
  refine bz_goes (st0 := (as.reverse ++ rest).map (bz_cz ad)) (va_runSN (As := as.map (bz_cz ad)) (rest := rest.map (bz_cz ad)) ⟨hx, hb, hml, hown, hts⟩ hM ⟨cw, hts _ hs, trivial⟩ ⟨bz_blind, fun U hU hW => ⟨rfl, bz_pic F0' hP hD hS hU hW⟩⟩ rfl (by simpa using hn) hlv.1 (by simp) (lv_room (by rw [bz_cat_cz]; exact hcat)) hd ⟨hce, hsl⟩) hS hD hA (fun v σ' hq H1 locs1 hP1 hD1 hS1 => kk v σ' hq hnL H1 locs1 ls hP1 hD1 hS1 hlv)
theorem bz_cV {P : Nat → bz_M} {l : Launch} {own : String} {bytes : ByteArray} {fr lo pc j n idx ci N : Nat} {T : u_T} (hj : bz_mok (P j)) (hd : decode bytes pc = .ok (.invokevirtual idx, 3)) (hl : Cond.methodLink own idx (P j).2.1 ∈ bz_TB) (hi : Cond.instanceMethod (P j).2.1 ∈ bz_TB) (hsel : Cond.selects (P j).2.1.cls (P j).2.1 (P j).2.1 ∈ bz_TB) (hcl : vwCl[ci]? = some ((P j).2.1.cls, T, N)) (hpar : (parseMethodDescriptor (P j).2.1.desc).map (fun d => d.parameters.length) = some n) (hfr : (P j).2.2.2.2.2.1 + 1 ≤ fr) (hlo : 8 + ((P j).2.2.2.1 + 11) + (P j).2.2.2.2.2.2.1 ≤ lo) : bz_cok P l own bytes fr lo pc j (n + 1) (ci + 1) := by
  obtain ⟨hpn, how, hr, hcw, hiw, hy1, hy2⟩ := hj
  intro X p e R s m args below meth c Qf A ad ca D cells slots nL F hfR hlR L as rest σ Qc hn hm hcat hrc hsnd kk hnL H locs ls hP hD hS hlv
  have F0' := F
  obtain ⟨hx, hb, hml, hown, hts, hnw, hK, hA, hZ, hT, hce, hsl⟩ := F
  cases as with
  | nil => simp at hn
  | cons a0 as =>
    cases a0 with
    | ref o =>
      obtain ⟨ps, hsh⟩ := bz_isO_sp (show bz_isO o ci = true from hrc)
      have hM := bz_met (ad := ad) (ca := ca) (D := D) (sz := H.size) hpn how hr hm hsnd
      have cw := cwV (R := R) (s := s) (args := args) (own := own) (C := (P j).2.1.cls) (index := idx) (rm := bz_rm (P j)) (mc := 0) (ms := 0) n hts (bz_good (ws := wsV own idx (P j).2.1.cls (P j).2.1 (bz_ws (P j))) (fun w hw => by
        rcases List.mem_append.mp hw with h | h
        · simp only [List.mem_cons, List.not_mem_nil, or_false] at h
          rcases h with rfl | rfl | rfl | rfl
          · exact hl
          · exact hi
          · exact hsel
          · exact hiw
        · exact bz_ws_in hcw w h)) rfl rfl rfl ⟨rfl, hy1, hy2, hpar⟩ ⟨Nat.le_trans hfr hfR, Nat.le_trans hlo hlR⟩
      refine bz_goes (st0 := ((.ref o :: as).reverse ++ rest).map (bz_cz ad)) (va_runV (b := ad o) (As := as.map (bz_cz ad)) (rest := rest.map (bz_cz ad)) ⟨hx, hb, hml, hown, hts⟩ hM cw ⟨bz_blind, va_recv hK hP hcl (bz_W_at hsh), fun U hU hW => ⟨rfl, bz_pic F0' hP hD hS hU hW⟩⟩ rfl (by simpa using hn) hlv.1 (by simp [bz_cz]) (lv_room (by rw [bz_cat_cz]; exact hcat)) hd ⟨hce, hsl⟩) hS hD hA (fun v σ' hq H1 locs1 hP1 hD1 hS1 => kk v σ' hq hnL H1 locs1 ls hP1 hD1 hS1 hlv)
    | _ => cases hrc
/-- a row is what the bytes say -/
def bz_rw (P : Nat → bz_M) (l : Launch) (M : bz_M) (q : bz_E) : Prop := match q.2 with
  | .inl f => bz_ok M.1 M.2.2.1 q.1 f
  | .inr (.inl (j, n, vk)) => bz_cok P l M.1 M.2.2.1 M.2.2.2.2.2.1 M.2.2.2.2.2.2.1 q.1 j n vk
  | .inr (.inr i) => bz_rok M.2.2.1 M.2.2.2.2.1 q.1 i
theorem bz_lk_mem : ∀ {T : List bz_E} {pc : Nat} {x : bz_Op ⊕ (Nat × Nat × Nat) ⊕ Nat}, bz_lk T pc = some x → (pc, x) ∈ T := by
  intro T
  induction T with
  | nil => intro pc x h; cases h
  | cons q r ih =>
    intro pc x h
    simp only [bz_lk] at h
    cases hb : Nat.beq q.1 pc with
    | true =>
      rw [hb] at h
      simp only [cond_true, Option.some.injEq] at h
      have := Nat.eq_of_beq_eq_true hb
      subst this; subst h
      exact List.mem_cons_self
    | false =>
      rw [hb] at h
      exact List.mem_cons_of_mem _ (ih h)
theorem bz_le_len : ∀ {L' L : List (Option Value)}, bz_le L' L → L'.length = L.length
  | [], [], _ => rfl
  | none :: a, y :: b, h => congrArg (· + 1) (bz_le_len (L' := a) (L := b) h)
  | some x :: a, some y :: b, h => congrArg (· + 1) (bz_le_len (L' := a) (L := b) h.2)
  | some x :: a, none :: b, hl => hl.elim
  | none :: a, [], hl => hl.elim
  | some x :: a, [], hl => hl.elim
  | [], y :: b, hl => hl.elim
/-- THE KIT'S MACHINE FOLLOWS -/
theorem bz_follow {P : Nat → bz_M} {l : Launch} (hall : ∀ k, ∀ q ∈ (P k).2.2.2.2.2.2.2, bz_rw P l (P k) q) (X : bz_X) : bz_Cl P X (bz_snd P l X) := by
  refine ⟨?_, ?_, ?_, ?_, ?_⟩
  · intro k Q a g b h hg w p e R s m args below meth c Qf A ad ca D cells slots nL F hfR hlR hnl hH
    obtain ⟨pc, L, st, σ⟩ := a
    simp only [bz_st1] at h
    split at h
    · rename_i f hlk
      exact hall k _ (bz_lk_mem hlk) X p l e R s m args below meth c Qf A ad ca D cells slots nL F L st σ g b h hg (w p e R s m args below meth c Qf A ad ca D cells slots nL F hfR hlR hnl hH)
    · cases h
  · intro k Q L L' pc st σ hle w p e R s m args below meth c Qf A ad ca D cells slots nL F hfR hlR hnl hH hn H locs ls hP hD hS hl
    refine w p e R s m args below meth c Qf A ad ca D cells slots nL F hfR hlR hnl hH ((bz_le_len hle).trans hn) H locs ls hP hD hS (bz_lv_mono hl ?_)
    rintro ⟨j, w⟩ hq
    obtain ⟨v, hv, hw⟩ := bz_lv_mem.mp hq
    exact bz_lv_mem.mpr ⟨v, bz_le_mem hle j v hv, hw⟩
  · intro k Q pc L as rest σ j n vk Qc hlk hn hm hcat hrc w kk p e R s m args below meth c Qf A ad ca D cells slots nL F hfR hlR hnl hH
    exact hall k _ (bz_lk_mem hlk) X p e R s m args below meth c Qf A ad ca D cells slots nL F hfR hlR L as rest σ Qc hn hm hcat hrc w (fun v σ' hq => kk v σ' hq p e R s m args below meth c Qf A ad ca D cells slots nL F hfR hlR hnl hH)
  · intro k Q pc L st σ j v hlk hv hg hQ p e R s m args below meth c Qf A ad ca D cells slots nL F hfR hlR hnl hH hn H locs ls hP hD hS hl
    exact hH pc j st v σ hlk hv hg hQ H locs ls hP hD hS
  · intro k Q Q' a hQ w p e R s m args below meth c Qf A ad ca D cells slots nL F hfR hlR hnl hH
    exact w p e R s m args below meth c Qf A ad ca D cells slots nL F hfR hlR hnl (fun pc j st v σ h1 h2 h3 h4 => hH pc j st v σ h1 h2 h3 (hQ v σ h4))
end
