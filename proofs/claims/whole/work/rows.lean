section
-- ===== PART A: goes FIRST, ahead of the names: the tables' words, and 'selects' of the private methods out of them =====
/-- a private method of a class that the tables say can be made, by its rows of tables_1 -/
def lw_okq (q : MethodName × Nat) : Prop := (q.1.cls ≠ "java/lang/invoke/MethodHandle" ∧ q.1.cls ≠ "java/lang/invoke/VarHandle") ∧ Cond.instantiable q.1.cls q.2 ∈ tables_1 ∧ Cond.privateMethod q.1 ∈ tables_1 ∧ Cond.instanceMethod q.1 ∈ tables_1
theorem lw_p0 : lw_okq (⟨"BaizeCorps", "tryText", "()I"⟩, 8) := ⟨⟨by decide +kernel, by decide +kernel⟩, List.mem_of_getElem? (i := 16) (by decide +kernel), List.mem_of_getElem? (i := 340) (by decide +kernel), List.mem_of_getElem? (i := 341) (by decide +kernel)⟩
theorem lw_p1 : lw_okq (⟨"BaizeCorps$Trial", "begin", "(LBaizeCorps$Table;)V"⟩, 8) := ⟨⟨by decide +kernel, by decide +kernel⟩, List.mem_of_getElem? (i := 87) (by decide +kernel), List.mem_of_getElem? (i := 348) (by decide +kernel), List.mem_of_getElem? (i := 349) (by decide +kernel)⟩
theorem lw_p2 : lw_okq (⟨"BaizeCorps$Trial", "tryAct", "(IIII)I"⟩, 8) := ⟨⟨by decide +kernel, by decide +kernel⟩, List.mem_of_getElem? (i := 87) (by decide +kernel), List.mem_of_getElem? (i := 365) (by decide +kernel), List.mem_of_getElem? (i := 366) (by decide +kernel)⟩
theorem lw_p3 : lw_okq (⟨"BaizeCorps$Trial", "play", "(III)V"⟩, 8) := ⟨⟨by decide +kernel, by decide +kernel⟩, List.mem_of_getElem? (i := 87) (by decide +kernel), List.mem_of_getElem? (i := 374) (by decide +kernel), List.mem_of_getElem? (i := 375) (by decide +kernel)⟩
theorem lw_p4 : lw_okq (⟨"BaizeCorps$Stroke", "begin", "(I)V"⟩, 7) := ⟨⟨by decide +kernel, by decide +kernel⟩, List.mem_of_getElem? (i := 95) (by decide +kernel), List.mem_of_getElem? (i := 382) (by decide +kernel), List.mem_of_getElem? (i := 383) (by decide +kernel)⟩
theorem lw_p5 : lw_okq (⟨"BaizeCorps$Stroke", "touch", "(II)V"⟩, 7) := ⟨⟨by decide +kernel, by decide +kernel⟩, List.mem_of_getElem? (i := 95) (by decide +kernel), List.mem_of_getElem? (i := 397) (by decide +kernel), List.mem_of_getElem? (i := 398) (by decide +kernel)⟩
theorem lw_p6 : lw_okq (⟨"BaizeCorps$Table", "driftOne", "(I)V"⟩, 4) := ⟨⟨by decide +kernel, by decide +kernel⟩, List.mem_of_getElem? (i := 24) (by decide +kernel), List.mem_of_getElem? (i := 415) (by decide +kernel), List.mem_of_getElem? (i := 416) (by decide +kernel)⟩
theorem lw_p7 : lw_okq (⟨"BaizeCorps$Whence", "countLeft", "(LBaizeCorps$Track;)V"⟩, 5) := ⟨⟨by decide +kernel, by decide +kernel⟩, List.mem_of_getElem? (i := 178) (by decide +kernel), List.mem_of_getElem? (i := 533) (by decide +kernel), List.mem_of_getElem? (i := 534) (by decide +kernel)⟩
theorem lw_p8 : lw_okq (⟨"BaizeCorps$Whence", "mostLeftAt", "(I)I"⟩, 5) := ⟨⟨by decide +kernel, by decide +kernel⟩, List.mem_of_getElem? (i := 178) (by decide +kernel), List.mem_of_getElem? (i := 538) (by decide +kernel), List.mem_of_getElem? (i := 539) (by decide +kernel)⟩
theorem lw_p9 : lw_okq (⟨"BaizeCorps$Heaps", "learn", "()V"⟩, 2) := ⟨⟨by decide +kernel, by decide +kernel⟩, List.mem_of_getElem? (i := 204) (by decide +kernel), List.mem_of_getElem? (i := 553) (by decide +kernel), List.mem_of_getElem? (i := 554) (by decide +kernel)⟩
theorem lw_p10 : lw_okq (⟨"BaizeCorps$Heaps", "winsAtOnce", "(II)Z"⟩, 2) := ⟨⟨by decide +kernel, by decide +kernel⟩, List.mem_of_getElem? (i := 204) (by decide +kernel), List.mem_of_getElem? (i := 557) (by decide +kernel), List.mem_of_getElem? (i := 558) (by decide +kernel)⟩
theorem lw_p11 : lw_okq (⟨"BaizeCorps$Heaps", "isLost", "(IZ)Z"⟩, 2) := ⟨⟨by decide +kernel, by decide +kernel⟩, List.mem_of_getElem? (i := 204) (by decide +kernel), List.mem_of_getElem? (i := 561) (by decide +kernel), List.mem_of_getElem? (i := 562) (by decide +kernel)⟩
theorem lw_p12 : lw_okq (⟨"BaizeCorpsModel", "ballOn", "(I)I"⟩, 42) := ⟨⟨by decide +kernel, by decide +kernel⟩, List.mem_of_getElem? (i := 620) (by decide +kernel), List.mem_of_getElem? (i := 779) (by decide +kernel), List.mem_of_getElem? (i := 780) (by decide +kernel)⟩
theorem lw_p13 : lw_okq (⟨"BaizeCorpsModel", "readOn", "(II)I"⟩, 42) := ⟨⟨by decide +kernel, by decide +kernel⟩, List.mem_of_getElem? (i := 620) (by decide +kernel), List.mem_of_getElem? (i := 802) (by decide +kernel), List.mem_of_getElem? (i := 803) (by decide +kernel)⟩
theorem lw_p14 : lw_okq (⟨"BaizeCorpsModel", "begin", "(I)I"⟩, 42) := ⟨⟨by decide +kernel, by decide +kernel⟩, List.mem_of_getElem? (i := 620) (by decide +kernel), List.mem_of_getElem? (i := 806) (by decide +kernel), List.mem_of_getElem? (i := 807) (by decide +kernel)⟩
theorem lw_p15 : lw_okq (⟨"BaizeCorpsModel", "close", "(I)I"⟩, 42) := ⟨⟨by decide +kernel, by decide +kernel⟩, List.mem_of_getElem? (i := 620) (by decide +kernel), List.mem_of_getElem? (i := 812) (by decide +kernel), List.mem_of_getElem? (i := 813) (by decide +kernel)⟩
def lw_privs_1 : List (MethodName × Nat) := [(⟨"BaizeCorps", "tryText", "()I"⟩, 8), (⟨"BaizeCorps$Trial", "begin", "(LBaizeCorps$Table;)V"⟩, 8), (⟨"BaizeCorps$Trial", "tryAct", "(IIII)I"⟩, 8), (⟨"BaizeCorps$Trial", "play", "(III)V"⟩, 8), (⟨"BaizeCorps$Stroke", "begin", "(I)V"⟩, 7), (⟨"BaizeCorps$Stroke", "touch", "(II)V"⟩, 7), (⟨"BaizeCorps$Table", "driftOne", "(I)V"⟩, 4), (⟨"BaizeCorps$Whence", "countLeft", "(LBaizeCorps$Track;)V"⟩, 5), (⟨"BaizeCorps$Whence", "mostLeftAt", "(I)I"⟩, 5), (⟨"BaizeCorps$Heaps", "learn", "()V"⟩, 2), (⟨"BaizeCorps$Heaps", "winsAtOnce", "(II)Z"⟩, 2), (⟨"BaizeCorps$Heaps", "isLost", "(IZ)Z"⟩, 2), (⟨"BaizeCorpsModel", "ballOn", "(I)I"⟩, 42), (⟨"BaizeCorpsModel", "readOn", "(II)I"⟩, 42), (⟨"BaizeCorpsModel", "begin", "(I)I"⟩, 42), (⟨"BaizeCorpsModel", "close", "(I)I"⟩, 42)]
theorem lw_r1 : ∀ q ∈ lw_privs_1, lw_okq q := List.forall_mem_cons.mpr ⟨lw_p0, List.forall_mem_cons.mpr ⟨lw_p1, List.forall_mem_cons.mpr ⟨lw_p2, List.forall_mem_cons.mpr ⟨lw_p3, List.forall_mem_cons.mpr ⟨lw_p4, List.forall_mem_cons.mpr ⟨lw_p5, List.forall_mem_cons.mpr ⟨lw_p6, List.forall_mem_cons.mpr ⟨lw_p7, List.forall_mem_cons.mpr ⟨lw_p8, List.forall_mem_cons.mpr ⟨lw_p9, List.forall_mem_cons.mpr ⟨lw_p10, List.forall_mem_cons.mpr ⟨lw_p11, List.forall_mem_cons.mpr ⟨lw_p12, List.forall_mem_cons.mpr ⟨lw_p13, List.forall_mem_cons.mpr ⟨lw_p14, List.forall_mem_cons.mpr ⟨lw_p15, fun _ h => absurd h List.not_mem_nil⟩⟩⟩⟩⟩⟩⟩⟩⟩⟩⟩⟩⟩⟩⟩⟩
theorem lw_p16 : lw_okq (⟨"BaizeCorpsModel", "deed", "(I)I"⟩, 42) := ⟨⟨by decide +kernel, by decide +kernel⟩, List.mem_of_getElem? (i := 620) (by decide +kernel), List.mem_of_getElem? (i := 816) (by decide +kernel), List.mem_of_getElem? (i := 817) (by decide +kernel)⟩
theorem lw_p17 : lw_okq (⟨"BaizeCorpsModel", "force", "(I)I"⟩, 42) := ⟨⟨by decide +kernel, by decide +kernel⟩, List.mem_of_getElem? (i := 620) (by decide +kernel), List.mem_of_getElem? (i := 822) (by decide +kernel), List.mem_of_getElem? (i := 823) (by decide +kernel)⟩
theorem lw_p18 : lw_okq (⟨"BaizeCorpsModel", "refusal", "()I"⟩, 42) := ⟨⟨by decide +kernel, by decide +kernel⟩, List.mem_of_getElem? (i := 620) (by decide +kernel), List.mem_of_getElem? (i := 832) (by decide +kernel), List.mem_of_getElem? (i := 833) (by decide +kernel)⟩
theorem lw_p19 : lw_okq (⟨"BaizeCorpsModel", "keepNow", "()V"⟩, 42) := ⟨⟨by decide +kernel, by decide +kernel⟩, List.mem_of_getElem? (i := 620) (by decide +kernel), List.mem_of_getElem? (i := 836) (by decide +kernel), List.mem_of_getElem? (i := 837) (by decide +kernel)⟩
theorem lw_p20 : lw_okq (⟨"BaizeCorpsModel", "goCrises", "()V"⟩, 42) := ⟨⟨by decide +kernel, by decide +kernel⟩, List.mem_of_getElem? (i := 620) (by decide +kernel), List.mem_of_getElem? (i := 841) (by decide +kernel), List.mem_of_getElem? (i := 842) (by decide +kernel)⟩
theorem lw_p21 : lw_okq (⟨"BaizeCorpsModel", "whyNot", "(II)I"⟩, 42) := ⟨⟨by decide +kernel, by decide +kernel⟩, List.mem_of_getElem? (i := 620) (by decide +kernel), List.mem_of_getElem? (i := 845) (by decide +kernel), List.mem_of_getElem? (i := 846) (by decide +kernel)⟩
theorem lw_p22 : lw_okq (⟨"BaizeCorpsModel", "happen", "(IIII)V"⟩, 42) := ⟨⟨by decide +kernel, by decide +kernel⟩, List.mem_of_getElem? (i := 620) (by decide +kernel), List.mem_of_getElem? (i := 849) (by decide +kernel), List.mem_of_getElem? (i := 850) (by decide +kernel)⟩
theorem lw_p23 : lw_okq (⟨"BaizeCorpsModel", "stroke", "(III)V"⟩, 42) := ⟨⟨by decide +kernel, by decide +kernel⟩, List.mem_of_getElem? (i := 620) (by decide +kernel), List.mem_of_getElem? (i := 853) (by decide +kernel), List.mem_of_getElem? (i := 854) (by decide +kernel)⟩
theorem lw_p24 : lw_okq (⟨"BaizeCorpsModel", "send", "(III)V"⟩, 42) := ⟨⟨by decide +kernel, by decide +kernel⟩, List.mem_of_getElem? (i := 620) (by decide +kernel), List.mem_of_getElem? (i := 857) (by decide +kernel), List.mem_of_getElem? (i := 858) (by decide +kernel)⟩
theorem lw_p25 : lw_okq (⟨"BaizeCorpsModel", "step", "(I)V"⟩, 42) := ⟨⟨by decide +kernel, by decide +kernel⟩, List.mem_of_getElem? (i := 620) (by decide +kernel), List.mem_of_getElem? (i := 861) (by decide +kernel), List.mem_of_getElem? (i := 862) (by decide +kernel)⟩
theorem lw_p26 : lw_okq (⟨"BaizeCorpsModel", "touch", "(II)V"⟩, 42) := ⟨⟨by decide +kernel, by decide +kernel⟩, List.mem_of_getElem? (i := 620) (by decide +kernel), List.mem_of_getElem? (i := 879) (by decide +kernel), List.mem_of_getElem? (i := 880) (by decide +kernel)⟩
theorem lw_p27 : lw_okq (⟨"BaizeCorpsModel", "nap", "()V"⟩, 42) := ⟨⟨by decide +kernel, by decide +kernel⟩, List.mem_of_getElem? (i := 620) (by decide +kernel), List.mem_of_getElem? (i := 883) (by decide +kernel), List.mem_of_getElem? (i := 884) (by decide +kernel)⟩
theorem lw_p28 : lw_okq (⟨"BaizeCorpsModel", "drift", "(I)V"⟩, 42) := ⟨⟨by decide +kernel, by decide +kernel⟩, List.mem_of_getElem? (i := 620) (by decide +kernel), List.mem_of_getElem? (i := 890) (by decide +kernel), List.mem_of_getElem? (i := 891) (by decide +kernel)⟩
theorem lw_p29 : lw_okq (⟨"BaizeCorpsModel", "back", "(I)I"⟩, 42) := ⟨⟨by decide +kernel, by decide +kernel⟩, List.mem_of_getElem? (i := 620) (by decide +kernel), List.mem_of_getElem? (i := 894) (by decide +kernel), List.mem_of_getElem? (i := 895) (by decide +kernel)⟩
theorem lw_p30 : lw_okq (⟨"BaizeCorpsModel", "downMany", "()I"⟩, 42) := ⟨⟨by decide +kernel, by decide +kernel⟩, List.mem_of_getElem? (i := 620) (by decide +kernel), List.mem_of_getElem? (i := 907) (by decide +kernel), List.mem_of_getElem? (i := 908) (by decide +kernel)⟩
theorem lw_p31 : lw_okq (⟨"BaizeCorpsModel", "stepsBy", "(IIII)I"⟩, 42) := ⟨⟨by decide +kernel, by decide +kernel⟩, List.mem_of_getElem? (i := 620) (by decide +kernel), List.mem_of_getElem? (i := 923) (by decide +kernel), List.mem_of_getElem? (i := 924) (by decide +kernel)⟩
def lw_privs_2 : List (MethodName × Nat) := [(⟨"BaizeCorpsModel", "deed", "(I)I"⟩, 42), (⟨"BaizeCorpsModel", "force", "(I)I"⟩, 42), (⟨"BaizeCorpsModel", "refusal", "()I"⟩, 42), (⟨"BaizeCorpsModel", "keepNow", "()V"⟩, 42), (⟨"BaizeCorpsModel", "goCrises", "()V"⟩, 42), (⟨"BaizeCorpsModel", "whyNot", "(II)I"⟩, 42), (⟨"BaizeCorpsModel", "happen", "(IIII)V"⟩, 42), (⟨"BaizeCorpsModel", "stroke", "(III)V"⟩, 42), (⟨"BaizeCorpsModel", "send", "(III)V"⟩, 42), (⟨"BaizeCorpsModel", "step", "(I)V"⟩, 42), (⟨"BaizeCorpsModel", "touch", "(II)V"⟩, 42), (⟨"BaizeCorpsModel", "nap", "()V"⟩, 42), (⟨"BaizeCorpsModel", "drift", "(I)V"⟩, 42), (⟨"BaizeCorpsModel", "back", "(I)I"⟩, 42), (⟨"BaizeCorpsModel", "downMany", "()I"⟩, 42), (⟨"BaizeCorpsModel", "stepsBy", "(IIII)I"⟩, 42)]
theorem lw_r2 : ∀ q ∈ lw_privs_2, lw_okq q := List.forall_mem_cons.mpr ⟨lw_p16, List.forall_mem_cons.mpr ⟨lw_p17, List.forall_mem_cons.mpr ⟨lw_p18, List.forall_mem_cons.mpr ⟨lw_p19, List.forall_mem_cons.mpr ⟨lw_p20, List.forall_mem_cons.mpr ⟨lw_p21, List.forall_mem_cons.mpr ⟨lw_p22, List.forall_mem_cons.mpr ⟨lw_p23, List.forall_mem_cons.mpr ⟨lw_p24, List.forall_mem_cons.mpr ⟨lw_p25, List.forall_mem_cons.mpr ⟨lw_p26, List.forall_mem_cons.mpr ⟨lw_p27, List.forall_mem_cons.mpr ⟨lw_p28, List.forall_mem_cons.mpr ⟨lw_p29, List.forall_mem_cons.mpr ⟨lw_p30, List.forall_mem_cons.mpr ⟨lw_p31, fun _ h => absurd h List.not_mem_nil⟩⟩⟩⟩⟩⟩⟩⟩⟩⟩⟩⟩⟩⟩⟩⟩
theorem lw_p32 : lw_okq (⟨"BaizeCorpsModel", "metMany", "(I)I"⟩, 42) := ⟨⟨by decide +kernel, by decide +kernel⟩, List.mem_of_getElem? (i := 620) (by decide +kernel), List.mem_of_getElem? (i := 942) (by decide +kernel), List.mem_of_getElem? (i := 943) (by decide +kernel)⟩
theorem lw_p33 : lw_okq (⟨"BaizeCorpsModel", "findFar", "(I)Z"⟩, 42) := ⟨⟨by decide +kernel, by decide +kernel⟩, List.mem_of_getElem? (i := 620) (by decide +kernel), List.mem_of_getElem? (i := 950) (by decide +kernel), List.mem_of_getElem? (i := 951) (by decide +kernel)⟩
theorem lw_p34 : lw_okq (⟨"BaizeCorpsModel", "wayTo", "(II)I"⟩, 42) := ⟨⟨by decide +kernel, by decide +kernel⟩, List.mem_of_getElem? (i := 620) (by decide +kernel), List.mem_of_getElem? (i := 954) (by decide +kernel), List.mem_of_getElem? (i := 955) (by decide +kernel)⟩
theorem lw_p35 : lw_okq (⟨"BaizeCorpsModel", "leadsTo", "(III)Z"⟩, 42) := ⟨⟨by decide +kernel, by decide +kernel⟩, List.mem_of_getElem? (i := 620) (by decide +kernel), List.mem_of_getElem? (i := 958) (by decide +kernel), List.mem_of_getElem? (i := 959) (by decide +kernel)⟩
theorem lw_p36 : lw_okq (⟨"BaizeCorpsModel", "findFits", "()V"⟩, 42) := ⟨⟨by decide +kernel, by decide +kernel⟩, List.mem_of_getElem? (i := 620) (by decide +kernel), List.mem_of_getElem? (i := 975) (by decide +kernel), List.mem_of_getElem? (i := 976) (by decide +kernel)⟩
theorem lw_p37 : lw_okq (⟨"BaizeCorpsModel", "isFit", "(I)Z"⟩, 42) := ⟨⟨by decide +kernel, by decide +kernel⟩, List.mem_of_getElem? (i := 620) (by decide +kernel), List.mem_of_getElem? (i := 979) (by decide +kernel), List.mem_of_getElem? (i := 980) (by decide +kernel)⟩
theorem lw_p38 : lw_okq (⟨"BaizeCorpsModel", "mostNow", "()I"⟩, 42) := ⟨⟨by decide +kernel, by decide +kernel⟩, List.mem_of_getElem? (i := 620) (by decide +kernel), List.mem_of_getElem? (i := 987) (by decide +kernel), List.mem_of_getElem? (i := 988) (by decide +kernel)⟩
theorem lw_p39 : lw_okq (⟨"BaizeCorpsModel", "leastTake", "(II)I"⟩, 42) := ⟨⟨by decide +kernel, by decide +kernel⟩, List.mem_of_getElem? (i := 620) (by decide +kernel), List.mem_of_getElem? (i := 996) (by decide +kernel), List.mem_of_getElem? (i := 997) (by decide +kernel)⟩
theorem lw_p40 : lw_okq (⟨"BaizeCorpsModel", "findChance", "(IIII)V"⟩, 42) := ⟨⟨by decide +kernel, by decide +kernel⟩, List.mem_of_getElem? (i := 620) (by decide +kernel), List.mem_of_getElem? (i := 1012) (by decide +kernel), List.mem_of_getElem? (i := 1013) (by decide +kernel)⟩
theorem lw_p41 : lw_okq (⟨"BaizeCorpsModel", "passAll", "()V"⟩, 42) := ⟨⟨by decide +kernel, by decide +kernel⟩, List.mem_of_getElem? (i := 620) (by decide +kernel), List.mem_of_getElem? (i := 1037) (by decide +kernel), List.mem_of_getElem? (i := 1038) (by decide +kernel)⟩
theorem lw_p42 : lw_okq (⟨"BaizeCorpsModel", "pass", "(I)I"⟩, 42) := ⟨⟨by decide +kernel, by decide +kernel⟩, List.mem_of_getElem? (i := 620) (by decide +kernel), List.mem_of_getElem? (i := 1041) (by decide +kernel), List.mem_of_getElem? (i := 1042) (by decide +kernel)⟩
theorem lw_p43 : lw_okq (⟨"BaizeCorpsModel", "passRow", "([II)V"⟩, 42) := ⟨⟨by decide +kernel, by decide +kernel⟩, List.mem_of_getElem? (i := 620) (by decide +kernel), List.mem_of_getElem? (i := 1045) (by decide +kernel), List.mem_of_getElem? (i := 1046) (by decide +kernel)⟩
def lw_privs_3 : List (MethodName × Nat) := [(⟨"BaizeCorpsModel", "metMany", "(I)I"⟩, 42), (⟨"BaizeCorpsModel", "findFar", "(I)Z"⟩, 42), (⟨"BaizeCorpsModel", "wayTo", "(II)I"⟩, 42), (⟨"BaizeCorpsModel", "leadsTo", "(III)Z"⟩, 42), (⟨"BaizeCorpsModel", "findFits", "()V"⟩, 42), (⟨"BaizeCorpsModel", "isFit", "(I)Z"⟩, 42), (⟨"BaizeCorpsModel", "mostNow", "()I"⟩, 42), (⟨"BaizeCorpsModel", "leastTake", "(II)I"⟩, 42), (⟨"BaizeCorpsModel", "findChance", "(IIII)V"⟩, 42), (⟨"BaizeCorpsModel", "passAll", "()V"⟩, 42), (⟨"BaizeCorpsModel", "pass", "(I)I"⟩, 42), (⟨"BaizeCorpsModel", "passRow", "([II)V"⟩, 42)]
theorem lw_r3 : ∀ q ∈ lw_privs_3, lw_okq q := List.forall_mem_cons.mpr ⟨lw_p32, List.forall_mem_cons.mpr ⟨lw_p33, List.forall_mem_cons.mpr ⟨lw_p34, List.forall_mem_cons.mpr ⟨lw_p35, List.forall_mem_cons.mpr ⟨lw_p36, List.forall_mem_cons.mpr ⟨lw_p37, List.forall_mem_cons.mpr ⟨lw_p38, List.forall_mem_cons.mpr ⟨lw_p39, List.forall_mem_cons.mpr ⟨lw_p40, List.forall_mem_cons.mpr ⟨lw_p41, List.forall_mem_cons.mpr ⟨lw_p42, List.forall_mem_cons.mpr ⟨lw_p43, fun _ h => absurd h List.not_mem_nil⟩⟩⟩⟩⟩⟩⟩⟩⟩⟩⟩⟩
def lw_privs : List (MethodName × Nat) := lw_privs_1 ++ (lw_privs_2 ++ (lw_privs_3))
def lw_tbl : List Cond := k2_sels lw_privs ++ tables_1
theorem lw_privs_ok : ∀ q ∈ lw_privs, lw_okq q := by
  show ∀ q ∈ lw_privs_1 ++ (lw_privs_2 ++ (lw_privs_3)), lw_okq q
  exact List.forall_mem_append.mpr ⟨lw_r1, List.forall_mem_append.mpr ⟨lw_r2, lw_r3⟩⟩
-- ===== end of PART A; then your names; then what follows =====
/-! ===== BEGIN words of one list among another's, by their places ===== -/
theorem goodIn_r {big : List Cond} (ws : List Cond) (ps : List Nat) (hp : ws = ps.filterMap (fun i => big[i]?)) (h : ws.all goodWord = true) : GoodIn big ws := by
  intro w hw
  have h1 := List.all_eq_true.mp h w hw
  rw [hp] at hw
  obtain ⟨i, -, hi⟩ := List.mem_filterMap.mp hw
  have hm : w ∈ big := by first | exact List.mem_of_getElem? hi | exact List.getElem?_mem hi
  exact ⟨hm, good_of_word h1⟩
theorem goodIn_app {big a b : List Cond} (ha : GoodIn big a) (hb : GoodIn big b) : GoodIn big (a ++ b) := fun w h => (List.mem_append.mp h).elim (ha w) (hb w)
theorem goodIn_ca {big a b : List Cond} {c : Cond} (ha : GoodIn big (c :: a)) (hb : GoodIn big b) : GoodIn big (c :: (a ++ b)) := fun w h => (List.mem_cons.mp h).elim (fun e => ha w (List.mem_cons.mpr (Or.inl e))) (fun h => (List.mem_append.mp h).elim (fun h => ha w (List.mem_cons.mpr (Or.inr h))) (hb w))
theorem goodIn_sub {big ws : List Cond} (hm : ∀ w ∈ ws, w ∈ big) (h : ws.all goodWord = true) : GoodIn big ws := fun w hw => ⟨hm w hw, good_of_word (List.all_eq_true.mp h w hw)⟩
/-! ===== END ===== -/
def RX0 : String := "BaizeCorps$Heaps"
def TX0 : u_T := fun k => match k with
  | 0 => ("BaizeCorps$Heaps", "lostThird", "[I", true)
  | _ => ("BaizeCorps$Heaps", "known", "Z", false)
def tyX0 : Nat → FieldType := fun k => match k with
  | 0 => .array .int
  | _ => .boolean
abbrev wsX00 : List Cond := u_ws RX0 TX0 2
theorem nmX0 : ∀ a, a < 2 → ∀ b, b < 2 → a ≠ b → (TX0 a).2.1 ≠ (TX0 b).2.1 := by decide +kernel
theorem tyX0_ok : ∀ k, k < 2 → parseFieldDescriptor (TX0 k).2.2.1 = some (tyX0 k) := by decide +kernel
abbrev cX0_init : ByteArray := prog_2_method_1_code
def yX0_init : MethodName := ⟨RX0, "<init>", "()V"⟩
abbrev cX0_winningMove : ByteArray := prog_2_method_2_code
def yX0_winningMove : MethodName := ⟨RX0, "winningMove", "(IZ)I"⟩
abbrev cX0_isLost : ByteArray := prog_2_method_3_code
def yX0_isLost : MethodName := ⟨RX0, "isLost", "(IZ)Z"⟩
abbrev cX0_learn : ByteArray := prog_2_method_4_code
def yX0_learn : MethodName := ⟨RX0, "learn", "()V"⟩
abbrev cX0_winsAtOnce : ByteArray := prog_2_method_5_code
def yX0_winsAtOnce : MethodName := ⟨RX0, "winsAtOnce", "(II)Z"⟩
def RX1 : String := "BaizeCorps$Image"
def TX1 : u_T := fun k => match k with
  | 0 => ("BaizeCorps$Image", "table", "LBaizeCorps$Table;", true)
  | 1 => ("BaizeCorps$Image", "sights", "LBaizeCorps$Sights;", true)
  | _ => ("BaizeCorps$Image", "kept", "Z", false)
def tyX1 : Nat → FieldType := fun k => match k with
  | 0 => .object "BaizeCorps$Table"
  | 1 => .object "BaizeCorps$Sights"
  | _ => .boolean
abbrev wsX10 : List Cond := u_ws RX1 TX1 3
theorem nmX1 : ∀ a, a < 3 → ∀ b, b < 3 → a ≠ b → (TX1 a).2.1 ≠ (TX1 b).2.1 := by decide +kernel
theorem tyX1_ok : ∀ k, k < 3 → parseFieldDescriptor (TX1 k).2.2.1 = some (tyX1 k) := by decide +kernel
abbrev cX1_init : ByteArray := prog_3_method_1_code
def yX1_init : MethodName := ⟨RX1, "<init>", "()V"⟩
abbrev cX1_keep : ByteArray := prog_3_method_2_code
def yX1_keep : MethodName := ⟨RX1, "keep", "(LBaizeCorps$Table;LBaizeCorps$Sights;)V"⟩
def RX2 : String := "BaizeCorps$Odds"
def TX2 : u_T := fun k => match k with
  | _ => ("", "", "", false)
def tyX2 : Nat → FieldType := fun k => match k with
  | _ => .int
abbrev wsX20 : List Cond := u_ws RX2 TX2 0
theorem nmX2 : ∀ a, a < 0 → ∀ b, b < 0 → a ≠ b → (TX2 a).2.1 ≠ (TX2 b).2.1 := by decide +kernel
theorem tyX2_ok : ∀ k, k < 0 → parseFieldDescriptor (TX2 k).2.2.1 = some (tyX2 k) := by decide +kernel
abbrev cX2_winning : ByteArray := prog_4_method_2_code
def yX2_winning : MethodName := ⟨RX2, "winning", "(III)J"⟩
abbrev cX2_games : ByteArray := prog_4_method_3_code
def yX2_games : MethodName := ⟨RX2, "games", "(III)J"⟩
abbrev cX2_power : ByteArray := prog_4_method_4_code
def yX2_power : MethodName := ⟨RX2, "power", "(II)J"⟩
abbrev cX2_choose : ByteArray := prog_4_method_5_code
def yX2_choose : MethodName := ⟨RX2, "choose", "(II)J"⟩
abbrev cX2_commonDivisor : ByteArray := prog_4_method_6_code
def yX2_commonDivisor : MethodName := ⟨RX2, "commonDivisor", "(JJ)J"⟩
def RX3 : String := "BaizeCorps$Pad"
def TX3 : u_T := fun k => match k with
  | 0 => ("BaizeCorps$Pad", "signs", "[I", true)
  | _ => ("BaizeCorps$Pad", "count", "I", false)
def tyX3 : Nat → FieldType := fun k => match k with
  | 0 => .array .int
  | _ => .int
abbrev wsX30 : List Cond := u_ws RX3 TX3 2
theorem nmX3 : ∀ a, a < 2 → ∀ b, b < 2 → a ≠ b → (TX3 a).2.1 ≠ (TX3 b).2.1 := by decide +kernel
theorem tyX3_ok : ∀ k, k < 2 → parseFieldDescriptor (TX3 k).2.2.1 = some (tyX3 k) := by decide +kernel
abbrev cX3_init : ByteArray := prog_5_method_1_code
def yX3_init : MethodName := ⟨RX3, "<init>", "()V"⟩
abbrev cX3_add : ByteArray := prog_5_method_2_code
def yX3_add : MethodName := ⟨RX3, "add", "(I)Z"⟩
abbrev cX3_empty : ByteArray := prog_5_method_3_code
def yX3_empty : MethodName := ⟨RX3, "empty", "()I"⟩
abbrev cX3_signAt : ByteArray := prog_5_method_4_code
def yX3_signAt : MethodName := ⟨RX3, "signAt", "(I)I"⟩
abbrev cX3_firstFault : ByteArray := prog_5_method_5_code
def yX3_firstFault : MethodName := ⟨RX3, "firstFault", "()I"⟩
abbrev cX3_canStand : ByteArray := prog_5_method_6_code
def yX3_canStand : MethodName := ⟨RX3, "canStand", "(II)Z"⟩
abbrev cX3_isActAt : ByteArray := prog_5_method_7_code
def yX3_isActAt : MethodName := ⟨RX3, "isActAt", "(II)Z"⟩
abbrev cX3_isLetter : ByteArray := prog_5_method_8_code
def yX3_isLetter : MethodName := ⟨RX3, "isLetter", "(I)Z"⟩
abbrev cX3_actKind : ByteArray := prog_5_method_9_code
def yX3_actKind : MethodName := ⟨RX3, "actKind", "(I)I"⟩
abbrev cX3_actLength : ByteArray := prog_5_method_10_code
def yX3_actLength : MethodName := ⟨RX3, "actLength", "(I)I"⟩
def RX4 : String := "BaizeCorps$Sights"
def TX4 : u_T := fun k => match k with
  | 0 => ("BaizeCorps$Sights", "steps", "[I", true)
  | 1 => ("BaizeCorps$Sights", "cells", "[I", true)
  | _ => ("BaizeCorps$Sights", "count", "I", false)
def tyX4 : Nat → FieldType := fun k => match k with
  | 0 => .array .int
  | 1 => .array .int
  | _ => .int
abbrev wsX40 : List Cond := u_ws RX4 TX4 3
theorem nmX4 : ∀ a, a < 3 → ∀ b, b < 3 → a ≠ b → (TX4 a).2.1 ≠ (TX4 b).2.1 := by decide +kernel
theorem tyX4_ok : ∀ k, k < 3 → parseFieldDescriptor (TX4 k).2.2.1 = some (tyX4 k) := by decide +kernel
abbrev cX4_init : ByteArray := prog_6_method_1_code
def yX4_init : MethodName := ⟨RX4, "<init>", "()V"⟩
abbrev cX4_add : ByteArray := prog_6_method_2_code
def yX4_add : MethodName := ⟨RX4, "add", "(II)Z"⟩
abbrev cX4_copy : ByteArray := prog_6_method_3_code
def yX4_copy : MethodName := ⟨RX4, "copy", "(LBaizeCorps$Sights;)V"⟩
abbrev cX4_allFit : ByteArray := prog_6_method_4_code
def yX4_allFit : MethodName := ⟨RX4, "allFit", "(LBaizeCorps$Track;)Z"⟩
def RX5 : String := "BaizeCorps$Stroke"
def TX5 : u_T := fun k => match k with
  | 0 => ("BaizeCorps$Stroke", "sentBall", "I", false)
  | 1 => ("BaizeCorps$Stroke", "touches", "I", false)
  | 2 => ("BaizeCorps$Stroke", "cushions", "I", false)
  | 3 => ("BaizeCorps$Stroke", "downBall", "I", false)
  | 4 => ("BaizeCorps$Stroke", "firstTouched", "I", false)
  | 5 => ("BaizeCorps$Stroke", "firstForce", "I", false)
  | _ => ("BaizeCorps$Stroke", "firstCushions", "I", false)
def tyX5 : Nat → FieldType := fun k => match k with
  | 0 => .int
  | 1 => .int
  | 2 => .int
  | 3 => .int
  | 4 => .int
  | 5 => .int
  | _ => .int
abbrev wsX50 : List Cond := u_ws RX5 TX5 7
theorem nmX5 : ∀ a, a < 7 → ∀ b, b < 7 → a ≠ b → (TX5 a).2.1 ≠ (TX5 b).2.1 := by decide +kernel
theorem tyX5_ok : ∀ k, k < 7 → parseFieldDescriptor (TX5 k).2.2.1 = some (tyX5 k) := by decide +kernel
abbrev cX5_init : ByteArray := prog_7_method_1_code
def yX5_init : MethodName := ⟨RX5, "<init>", "()V"⟩
abbrev cX5_run : ByteArray := prog_7_method_2_code
def yX5_run : MethodName := ⟨RX5, "run", "(LBaizeCorps$Table;III)V"⟩
abbrev cX5_begin : ByteArray := prog_7_method_3_code
def yX5_begin : MethodName := ⟨RX5, "begin", "(I)V"⟩
abbrev cX5_touch : ByteArray := prog_7_method_4_code
def yX5_touch : MethodName := ⟨RX5, "touch", "(II)V"⟩
abbrev cX5_pointsMore : ByteArray := prog_7_method_5_code
def yX5_pointsMore : MethodName := ⟨RX5, "pointsMore", "()I"⟩
abbrev cX5_foulsMore : ByteArray := prog_7_method_6_code
def yX5_foulsMore : MethodName := ⟨RX5, "foulsMore", "()I"⟩
def RX6 : String := "BaizeCorps$Table"
def TX6 : u_T := fun k => match k with
  | 0 => ("BaizeCorps$Table", "cells", "[I", true)
  | 1 => ("BaizeCorps$Table", "points", "I", false)
  | 2 => ("BaizeCorps$Table", "fouls", "I", false)
  | _ => ("BaizeCorps$Table", "evening", "I", false)
def tyX6 : Nat → FieldType := fun k => match k with
  | 0 => .array .int
  | 1 => .int
  | 2 => .int
  | _ => .int
abbrev wsX60 : List Cond := u_ws RX6 TX6 4
theorem nmX6 : ∀ a, a < 4 → ∀ b, b < 4 → a ≠ b → (TX6 a).2.1 ≠ (TX6 b).2.1 := by decide +kernel
theorem tyX6_ok : ∀ k, k < 4 → parseFieldDescriptor (TX6 k).2.2.1 = some (tyX6 k) := by decide +kernel
abbrev cX6_init : ByteArray := prog_8_method_1_code
def yX6_init : MethodName := ⟨RX6, "<init>", "()V"⟩
abbrev cX6_copy : ByteArray := prog_8_method_2_code
def yX6_copy : MethodName := ⟨RX6, "copy", "(LBaizeCorps$Table;)V"⟩
abbrev cX6_isDown : ByteArray := prog_8_method_3_code
def yX6_isDown : MethodName := ⟨RX6, "isDown", "(I)Z"⟩
abbrev cX6_cellOrNone : ByteArray := prog_8_method_4_code
def yX6_cellOrNone : MethodName := ⟨RX6, "cellOrNone", "(I)I"⟩
abbrev cX6_lyingOn : ByteArray := prog_8_method_5_code
def yX6_lyingOn : MethodName := ⟨RX6, "lyingOn", "(I)I"⟩
abbrev cX6_howManyDown : ByteArray := prog_8_method_6_code
def yX6_howManyDown : MethodName := ⟨RX6, "howManyDown", "()I"⟩
abbrev cX6_reasonAgainst : ByteArray := prog_8_method_7_code
def yX6_reasonAgainst : MethodName := ⟨RX6, "reasonAgainst", "(II)I"⟩
abbrev cX6_drift : ByteArray := prog_8_method_8_code
def yX6_drift : MethodName := ⟨RX6, "drift", "()V"⟩
abbrev cX6_driftOne : ByteArray := prog_8_method_9_code
def yX6_driftOne : MethodName := ⟨RX6, "driftOne", "(I)V"⟩
def RX7 : String := "BaizeCorps$Track"
def TX7 : u_T := fun k => match k with
  | 0 => ("BaizeCorps$Track", "cells", "[I", true)
  | 1 => ("BaizeCorps$Track", "back", "I", false)
  | _ => ("BaizeCorps$Track", "everOn", "J", false)
def tyX7 : Nat → FieldType := fun k => match k with
  | 0 => .array .int
  | 1 => .int
  | _ => .long
abbrev wsX70 : List Cond := u_ws RX7 TX7 3
theorem nmX7 : ∀ a, a < 3 → ∀ b, b < 3 → a ≠ b → (TX7 a).2.1 ≠ (TX7 b).2.1 := by decide +kernel
theorem tyX7_ok : ∀ k, k < 3 → parseFieldDescriptor (TX7 k).2.2.1 = some (tyX7 k) := by decide +kernel
abbrev cX7_init : ByteArray := prog_9_method_1_code
def yX7_init : MethodName := ⟨RX7, "<init>", "()V"⟩
abbrev cX7_walk : ByteArray := prog_9_method_2_code
def yX7_walk : MethodName := ⟨RX7, "walk", "(II)V"⟩
abbrev cX7_cellBehind : ByteArray := prog_9_method_3_code
def yX7_cellBehind : MethodName := ⟨RX7, "cellBehind", "(I)I"⟩
def RX8 : String := "BaizeCorps$Trial"
def TX8 : u_T := fun k => match k with
  | 0 => ("BaizeCorps$Trial", "table", "LBaizeCorps$Table;", true)
  | 1 => ("BaizeCorps$Trial", "stroke", "LBaizeCorps$Stroke;", true)
  | 2 => ("BaizeCorps$Trial", "acts", "I", false)
  | 3 => ("BaizeCorps$Trial", "badAct", "I", false)
  | 4 => ("BaizeCorps$Trial", "why", "I", false)
  | 5 => ("BaizeCorps$Trial", "touches", "I", false)
  | 6 => ("BaizeCorps$Trial", "cushions", "I", false)
  | _ => ("BaizeCorps$Trial", "foulAct", "I", false)
def tyX8 : Nat → FieldType := fun k => match k with
  | 0 => .object "BaizeCorps$Table"
  | 1 => .object "BaizeCorps$Stroke"
  | 2 => .int
  | 3 => .int
  | 4 => .int
  | 5 => .int
  | 6 => .int
  | _ => .int
abbrev wsX80 : List Cond := u_ws RX8 TX8 8
theorem nmX8 : ∀ a, a < 8 → ∀ b, b < 8 → a ≠ b → (TX8 a).2.1 ≠ (TX8 b).2.1 := by decide +kernel
theorem tyX8_ok : ∀ k, k < 8 → parseFieldDescriptor (TX8 k).2.2.1 = some (tyX8 k) := by decide +kernel
abbrev cX8_init : ByteArray := prog_10_method_1_code
def yX8_init : MethodName := ⟨RX8, "<init>", "()V"⟩
abbrev cX8_begin : ByteArray := prog_10_method_2_code
def yX8_begin : MethodName := ⟨RX8, "begin", "(LBaizeCorps$Table;)V"⟩
abbrev cX8_runText : ByteArray := prog_10_method_3_code
def yX8_runText : MethodName := ⟨RX8, "runText", "(LBaizeCorps$Pad;LBaizeCorps$Table;)V"⟩
abbrev cX8_runSeason : ByteArray := prog_10_method_4_code
def yX8_runSeason : MethodName := ⟨RX8, "runSeason", "(IILBaizeCorps$Table;)V"⟩
abbrev cX8_forceToTouch : ByteArray := prog_10_method_5_code
def yX8_forceToTouch : MethodName := ⟨RX8, "forceToTouch", "(LBaizeCorps$Table;IIII)I"⟩
abbrev cX8_tryAct : ByteArray := prog_10_method_6_code
def yX8_tryAct : MethodName := ⟨RX8, "tryAct", "(IIII)I"⟩
abbrev cX8_play : ByteArray := prog_10_method_7_code
def yX8_play : MethodName := ⟨RX8, "play", "(III)V"⟩
def RX9 : String := "BaizeCorps$Whence"
def TX9 : u_T := fun k => match k with
  | 0 => ("BaizeCorps$Whence", "codes", "[I", true)
  | 1 => ("BaizeCorps$Whence", "count", "I", false)
  | 2 => ("BaizeCorps$Whence", "bestStep", "I", false)
  | 3 => ("BaizeCorps$Whence", "leftAtMost", "I", false)
  | _ => ("BaizeCorps$Whence", "leftAt", "[I", true)
def tyX9 : Nat → FieldType := fun k => match k with
  | 0 => .array .int
  | 1 => .int
  | 2 => .int
  | 3 => .int
  | _ => .array .int
abbrev wsX90 : List Cond := u_ws RX9 TX9 5
theorem nmX9 : ∀ a, a < 5 → ∀ b, b < 5 → a ≠ b → (TX9 a).2.1 ≠ (TX9 b).2.1 := by decide +kernel
theorem tyX9_ok : ∀ k, k < 5 → parseFieldDescriptor (TX9 k).2.2.1 = some (tyX9 k) := by decide +kernel
abbrev cX9_init : ByteArray := prog_11_method_1_code
def yX9_init : MethodName := ⟨RX9, "<init>", "()V"⟩
abbrev cX9_gather : ByteArray := prog_11_method_2_code
def yX9_gather : MethodName := ⟨RX9, "gather", "(LBaizeCorps$Sights;LBaizeCorps$Track;)V"⟩
abbrev cX9_chooseStep : ByteArray := prog_11_method_3_code
def yX9_chooseStep : MethodName := ⟨RX9, "chooseStep", "(LBaizeCorps$Track;)V"⟩
abbrev cX9_countLeft : ByteArray := prog_11_method_4_code
def yX9_countLeft : MethodName := ⟨RX9, "countLeft", "(LBaizeCorps$Track;)V"⟩
abbrev cX9_mostLeftAt : ByteArray := prog_11_method_5_code
def yX9_mostLeftAt : MethodName := ⟨RX9, "mostLeftAt", "(I)I"⟩
def RX10 : String := "BaizeCorps"
def TX10 : u_T := fun k => match k with
  | 0 => ("BaizeCorps", "now", "LBaizeCorps$Table;", true)
  | 1 => ("BaizeCorps", "sights", "LBaizeCorps$Sights;", true)
  | 2 => ("BaizeCorps", "pad", "LBaizeCorps$Pad;", true)
  | 3 => ("BaizeCorps", "trial", "LBaizeCorps$Trial;", true)
  | 4 => ("BaizeCorps", "track", "LBaizeCorps$Track;", true)
  | 5 => ("BaizeCorps", "whence", "LBaizeCorps$Whence;", true)
  | 6 => ("BaizeCorps", "heaps", "LBaizeCorps$Heaps;", true)
  | _ => ("BaizeCorps", "images", "[LBaizeCorps$Image;", true)
def tyX10 : Nat → FieldType := fun k => match k with
  | 0 => .object "BaizeCorps$Table"
  | 1 => .object "BaizeCorps$Sights"
  | 2 => .object "BaizeCorps$Pad"
  | 3 => .object "BaizeCorps$Trial"
  | 4 => .object "BaizeCorps$Track"
  | 5 => .object "BaizeCorps$Whence"
  | 6 => .object "BaizeCorps$Heaps"
  | _ => .array (.object "BaizeCorps$Image")
abbrev wsX100 : List Cond := u_ws RX10 TX10 8
theorem nmX10 : ∀ a, a < 8 → ∀ b, b < 8 → a ≠ b → (TX10 a).2.1 ≠ (TX10 b).2.1 := by decide +kernel
theorem tyX10_ok : ∀ k, k < 8 → parseFieldDescriptor (TX10 k).2.2.1 = some (tyX10 k) := by decide +kernel
abbrev cX10_init : ByteArray := prog_1_method_1_code
def yX10_init : MethodName := ⟨RX10, "<init>", "()V"⟩
abbrev cX10_ball : ByteArray := prog_1_method_2_code
def yX10_ball : MethodName := ⟨RX10, "ball", "(II)I"⟩
abbrev cX10_score : ByteArray := prog_1_method_3_code
def yX10_score : MethodName := ⟨RX10, "score", "(II)I"⟩
abbrev cX10_say : ByteArray := prog_1_method_4_code
def yX10_say : MethodName := ⟨RX10, "say", "(I)I"⟩
abbrev cX10_wipe : ByteArray := prog_1_method_5_code
def yX10_wipe : MethodName := ⟨RX10, "wipe", "()I"⟩
abbrev cX10_fault : ByteArray := prog_1_method_6_code
def yX10_fault : MethodName := ⟨RX10, "fault", "()I"⟩
abbrev cX10_judge : ByteArray := prog_1_method_7_code
def yX10_judge : MethodName := ⟨RX10, "judge", "(I)I"⟩
abbrev cX10_behind : ByteArray := prog_1_method_8_code
def yX10_behind : MethodName := ⟨RX10, "behind", "(I)I"⟩
abbrev cX10_table : ByteArray := prog_1_method_9_code
def yX10_table : MethodName := ⟨RX10, "table", "(I)I"⟩
abbrev cX10_candour : ByteArray := prog_1_method_10_code
def yX10_candour : MethodName := ⟨RX10, "candour", "(I)I"⟩
abbrev cX10_done : ByteArray := prog_1_method_11_code
def yX10_done : MethodName := ⟨RX10, "done", "()I"⟩
abbrev cX10_tryText : ByteArray := prog_1_method_12_code
def yX10_tryText : MethodName := ⟨RX10, "tryText", "()I"⟩
abbrev cX10_hint : ByteArray := prog_1_method_13_code
def yX10_hint : MethodName := ⟨RX10, "hint", "(IIII)I"⟩
abbrev cX10_alone : ByteArray := prog_1_method_14_code
def yX10_alone : MethodName := ⟨RX10, "alone", "(IIII)I"⟩
abbrev cX10_strokes : ByteArray := prog_1_method_15_code
def yX10_strokes : MethodName := ⟨RX10, "strokes", "(III)I"⟩
abbrev cX10_firstWayInto : ByteArray := prog_1_method_16_code
def yX10_firstWayInto : MethodName := ⟨RX10, "firstWayInto", "(IJ)I"⟩
abbrev cX10_withAllThatReach : ByteArray := prog_1_method_17_code
def yX10_withAllThatReach : MethodName := ⟨RX10, "withAllThatReach", "(J)J"⟩
abbrev cX10_reachOf : ByteArray := prog_1_method_18_code
def yX10_reachOf : MethodName := ⟨RX10, "reachOf", "(II)J"⟩
abbrev cX10_seen : ByteArray := prog_1_method_19_code
def yX10_seen : MethodName := ⟨RX10, "seen", "(II)I"⟩
abbrev cX10_forget : ByteArray := prog_1_method_20_code
def yX10_forget : MethodName := ⟨RX10, "forget", "()I"⟩
abbrev cX10_sent : ByteArray := prog_1_method_21_code
def yX10_sent : MethodName := ⟨RX10, "sent", "(I)I"⟩
abbrev cX10_ask : ByteArray := prog_1_method_22_code
def yX10_ask : MethodName := ⟨RX10, "ask", "(I)I"⟩
abbrev cX10_chalk : ByteArray := prog_1_method_23_code
def yX10_chalk : MethodName := ⟨RX10, "chalk", "(III)I"⟩
abbrev cX10_match : ByteArray := prog_1_method_24_code
def yX10_match : MethodName := ⟨RX10, "match", "(IIIIII)J"⟩
abbrev cX10_season : ByteArray := prog_1_method_25_code
def yX10_season : MethodName := ⟨RX10, "season", "(III)I"⟩
abbrev cX10_image : ByteArray := prog_1_method_26_code
def yX10_image : MethodName := ⟨RX10, "image", "(I)I"⟩
abbrev cX10_restore : ByteArray := prog_1_method_27_code
def yX10_restore : MethodName := ⟨RX10, "restore", "(I)I"⟩
abbrev cX10_told : ByteArray := prog_1_method_28_code
def yX10_told : MethodName := ⟨RX10, "told", "(I)I"⟩
abbrev cX10_isWithin : ByteArray := prog_1_method_29_code
def yX10_isWithin : MethodName := ⟨RX10, "isWithin", "(III)Z"⟩
abbrev cX10_isBall : ByteArray := prog_1_method_30_code
def yX10_isBall : MethodName := ⟨RX10, "isBall", "(I)Z"⟩
abbrev cX10_isCell : ByteArray := prog_1_method_31_code
def yX10_isCell : MethodName := ⟨RX10, "isCell", "(I)Z"⟩
abbrev cX10_isPocket : ByteArray := prog_1_method_32_code
def yX10_isPocket : MethodName := ⟨RX10, "isPocket", "(I)Z"⟩
abbrev cX10_isPlace : ByteArray := prog_1_method_33_code
def yX10_isPlace : MethodName := ⟨RX10, "isPlace", "(I)Z"⟩
abbrev cX10_bit : ByteArray := prog_1_method_34_code
def yX10_bit : MethodName := ⟨RX10, "bit", "(I)J"⟩
abbrev cX10_turned : ByteArray := prog_1_method_35_code
def yX10_turned : MethodName := ⟨RX10, "turned", "(II)I"⟩
abbrev cX10_next : ByteArray := prog_1_method_36_code
def yX10_next : MethodName := ⟨RX10, "next", "(II)I"⟩
def RX11 : String := "BaizeCorpsModel"
def TX11 : u_T := fun k => match k with
  | 0 => ("BaizeCorpsModel", "cell", "[I", true)
  | 1 => ("BaizeCorpsModel", "points", "I", false)
  | 2 => ("BaizeCorpsModel", "fouls", "I", false)
  | 3 => ("BaizeCorpsModel", "evening", "I", false)
  | 4 => ("BaizeCorpsModel", "sightStep", "[I", true)
  | 5 => ("BaizeCorpsModel", "sightCell", "[I", true)
  | 6 => ("BaizeCorpsModel", "sights", "I", false)
  | 7 => ("BaizeCorpsModel", "pad", "[I", true)
  | 8 => ("BaizeCorpsModel", "padMany", "I", false)
  | 9 => ("BaizeCorpsModel", "act", "[I", true)
  | 10 => ("BaizeCorpsModel", "which", "[I", true)
  | 11 => ("BaizeCorpsModel", "whither", "[I", true)
  | 12 => ("BaizeCorpsModel", "hard", "[I", true)
  | 13 => ("BaizeCorpsModel", "acts", "I", false)
  | 14 => ("BaizeCorpsModel", "moving", "I", false)
  | 15 => ("BaizeCorpsModel", "goes", "I", false)
  | 16 => ("BaizeCorpsModel", "left", "I", false)
  | 17 => ("BaizeCorpsModel", "touches", "I", false)
  | 18 => ("BaizeCorpsModel", "cushions", "I", false)
  | 19 => ("BaizeCorpsModel", "cushionsThen", "I", false)
  | 20 => ("BaizeCorpsModel", "touchedFirst", "I", false)
  | 21 => ("BaizeCorpsModel", "stepsThen", "I", false)
  | 22 => ("BaizeCorpsModel", "downNow", "I", false)
  | 23 => ("BaizeCorpsModel", "touchedMany", "I", false)
  | 24 => ("BaizeCorpsModel", "cushionMany", "I", false)
  | 25 => ("BaizeCorpsModel", "were", "[I", true)
  | 26 => ("BaizeCorpsModel", "had", "[I", true)
  | 27 => ("BaizeCorpsModel", "badAct", "I", false)
  | 28 => ("BaizeCorpsModel", "badWhy", "I", false)
  | 29 => ("BaizeCorpsModel", "foulAct", "I", false)
  | 30 => ("BaizeCorpsModel", "met", "[Z", true)
  | 31 => ("BaizeCorpsModel", "far", "[I", true)
  | 32 => ("BaizeCorpsModel", "fit", "[I", true)
  | 33 => ("BaizeCorpsModel", "now", "[I", true)
  | 34 => ("BaizeCorpsModel", "fitMany", "I", false)
  | 35 => ("BaizeCorpsModel", "byCell", "[I", true)
  | 36 => ("BaizeCorpsModel", "wins", "[Z", true)
  | 37 => ("BaizeCorpsModel", "chance", "[J", true)
  | 38 => ("BaizeCorpsModel", "kept", "[I", true)
  | 39 => ("BaizeCorpsModel", "isKept", "[Z", true)
  | 40 => ("BaizeCorpsModel", "keptAt", "I", false)
  | _ => ("BaizeCorpsModel", "isWriting", "Z", false)
def tyX11 : Nat → FieldType := fun k => match k with
  | 0 => .array .int
  | 1 => .int
  | 2 => .int
  | 3 => .int
  | 4 => .array .int
  | 5 => .array .int
  | 6 => .int
  | 7 => .array .int
  | 8 => .int
  | 9 => .array .int
  | 10 => .array .int
  | 11 => .array .int
  | 12 => .array .int
  | 13 => .int
  | 14 => .int
  | 15 => .int
  | 16 => .int
  | 17 => .int
  | 18 => .int
  | 19 => .int
  | 20 => .int
  | 21 => .int
  | 22 => .int
  | 23 => .int
  | 24 => .int
  | 25 => .array .int
  | 26 => .array .int
  | 27 => .int
  | 28 => .int
  | 29 => .int
  | 30 => .array .boolean
  | 31 => .array .int
  | 32 => .array .int
  | 33 => .array .int
  | 34 => .int
  | 35 => .array .int
  | 36 => .array .boolean
  | 37 => .array .long
  | 38 => .array .int
  | 39 => .array .boolean
  | 40 => .int
  | _ => .boolean
abbrev wsX110 : List Cond := u_ws RX11 TX11 42
theorem nmX11 : ∀ a, a < 42 → ∀ b, b < 42 → a ≠ b → (TX11 a).2.1 ≠ (TX11 b).2.1 := by decide +kernel
theorem tyX11_ok : ∀ k, k < 42 → parseFieldDescriptor (TX11 k).2.2.1 = some (tyX11 k) := by decide +kernel
abbrev cX11_init : ByteArray := prog_13_method_1_code
def yX11_init : MethodName := ⟨RX11, "<init>", "()V"⟩
abbrev cX11_in : ByteArray := prog_13_method_3_code
def yX11_in : MethodName := ⟨RX11, "in", "(JJJ)Z"⟩
abbrev cX11_isBall : ByteArray := prog_13_method_4_code
def yX11_isBall : MethodName := ⟨RX11, "isBall", "(I)Z"⟩
abbrev cX11_isCell : ByteArray := prog_13_method_5_code
def yX11_isCell : MethodName := ⟨RX11, "isCell", "(I)Z"⟩
abbrev cX11_isPocket : ByteArray := prog_13_method_6_code
def yX11_isPocket : MethodName := ⟨RX11, "isPocket", "(I)Z"⟩
abbrev cX11_isPlace : ByteArray := prog_13_method_7_code
def yX11_isPlace : MethodName := ⟨RX11, "isPlace", "(I)Z"⟩
abbrev cX11_home : ByteArray := prog_13_method_8_code
def yX11_home : MethodName := ⟨RX11, "home", "(I)I"⟩
abbrev cX11_downwards : ByteArray := prog_13_method_9_code
def yX11_downwards : MethodName := ⟨RX11, "downwards", "(I)I"⟩
abbrev cX11_across : ByteArray := prog_13_method_10_code
def yX11_across : MethodName := ⟨RX11, "across", "(I)I"⟩
abbrev cX11_turned : ByteArray := prog_13_method_11_code
def yX11_turned : MethodName := ⟨RX11, "turned", "(II)I"⟩
abbrev cX11_ahead : ByteArray := prog_13_method_12_code
def yX11_ahead : MethodName := ⟨RX11, "ahead", "(II)I"⟩
abbrev cX11_ballOn : ByteArray := prog_13_method_13_code
def yX11_ballOn : MethodName := ⟨RX11, "ballOn", "(I)I"⟩
abbrev cX11_ball : ByteArray := prog_13_method_14_code
def yX11_ball : MethodName := ⟨RX11, "ball", "(II)I"⟩
abbrev cX11_score : ByteArray := prog_13_method_15_code
def yX11_score : MethodName := ⟨RX11, "score", "(II)I"⟩
abbrev cX11_say : ByteArray := prog_13_method_16_code
def yX11_say : MethodName := ⟨RX11, "say", "(I)I"⟩
abbrev cX11_wipe : ByteArray := prog_13_method_17_code
def yX11_wipe : MethodName := ⟨RX11, "wipe", "()I"⟩
abbrev cX11_close : ByteArray := prog_13_method_18_code
def yX11_close : MethodName := ⟨RX11, "close", "(I)I"⟩
abbrev cX11_begin : ByteArray := prog_13_method_19_code
def yX11_begin : MethodName := ⟨RX11, "begin", "(I)I"⟩
abbrev cX11_deed : ByteArray := prog_13_method_20_code
def yX11_deed : MethodName := ⟨RX11, "deed", "(I)I"⟩
abbrev cX11_force : ByteArray := prog_13_method_21_code
def yX11_force : MethodName := ⟨RX11, "force", "(I)I"⟩
abbrev cX11_readOn : ByteArray := prog_13_method_22_code
def yX11_readOn : MethodName := ⟨RX11, "readOn", "(II)I"⟩
abbrev cX11_fault : ByteArray := prog_13_method_23_code
def yX11_fault : MethodName := ⟨RX11, "fault", "()I"⟩
abbrev cX11_touch : ByteArray := prog_13_method_24_code
def yX11_touch : MethodName := ⟨RX11, "touch", "(II)V"⟩
abbrev cX11_step : ByteArray := prog_13_method_25_code
def yX11_step : MethodName := ⟨RX11, "step", "(I)V"⟩
abbrev cX11_send : ByteArray := prog_13_method_26_code
def yX11_send : MethodName := ⟨RX11, "send", "(III)V"⟩
abbrev cX11_stroke : ByteArray := prog_13_method_27_code
def yX11_stroke : MethodName := ⟨RX11, "stroke", "(III)V"⟩
abbrev cX11_columnOf : ByteArray := prog_13_method_28_code
def yX11_columnOf : MethodName := ⟨RX11, "columnOf", "(I)I"⟩
abbrev cX11_drift : ByteArray := prog_13_method_29_code
def yX11_drift : MethodName := ⟨RX11, "drift", "(I)V"⟩
abbrev cX11_nap : ByteArray := prog_13_method_30_code
def yX11_nap : MethodName := ⟨RX11, "nap", "()V"⟩
abbrev cX11_whyNot : ByteArray := prog_13_method_31_code
def yX11_whyNot : MethodName := ⟨RX11, "whyNot", "(II)I"⟩
abbrev cX11_happen : ByteArray := prog_13_method_32_code
def yX11_happen : MethodName := ⟨RX11, "happen", "(IIII)V"⟩
abbrev cX11_keepNow : ByteArray := prog_13_method_33_code
def yX11_keepNow : MethodName := ⟨RX11, "keepNow", "()V"⟩
abbrev cX11_back : ByteArray := prog_13_method_34_code
def yX11_back : MethodName := ⟨RX11, "back", "(I)I"⟩
abbrev cX11_goCrises : ByteArray := prog_13_method_35_code
def yX11_goCrises : MethodName := ⟨RX11, "goCrises", "()V"⟩
abbrev cX11_refusal : ByteArray := prog_13_method_36_code
def yX11_refusal : MethodName := ⟨RX11, "refusal", "()I"⟩
abbrev cX11_judge : ByteArray := prog_13_method_37_code
def yX11_judge : MethodName := ⟨RX11, "judge", "(I)I"⟩
abbrev cX11_behind : ByteArray := prog_13_method_38_code
def yX11_behind : MethodName := ⟨RX11, "behind", "(I)I"⟩
abbrev cX11_downMany : ByteArray := prog_13_method_39_code
def yX11_downMany : MethodName := ⟨RX11, "downMany", "()I"⟩
abbrev cX11_table : ByteArray := prog_13_method_40_code
def yX11_table : MethodName := ⟨RX11, "table", "(I)I"⟩
abbrev cX11_candour : ByteArray := prog_13_method_41_code
def yX11_candour : MethodName := ⟨RX11, "candour", "(I)I"⟩
abbrev cX11_done : ByteArray := prog_13_method_42_code
def yX11_done : MethodName := ⟨RX11, "done", "()I"⟩
abbrev cX11_stepsBy : ByteArray := prog_13_method_43_code
def yX11_stepsBy : MethodName := ⟨RX11, "stepsBy", "(IIII)I"⟩
abbrev cX11_hint : ByteArray := prog_13_method_44_code
def yX11_hint : MethodName := ⟨RX11, "hint", "(IIII)I"⟩
abbrev cX11_next : ByteArray := prog_13_method_45_code
def yX11_next : MethodName := ⟨RX11, "next", "(I)I"⟩
abbrev cX11_behindSteps : ByteArray := prog_13_method_46_code
def yX11_behindSteps : MethodName := ⟨RX11, "behindSteps", "(II)I"⟩
abbrev cX11_metMany : ByteArray := prog_13_method_47_code
def yX11_metMany : MethodName := ⟨RX11, "metMany", "(I)I"⟩
abbrev cX11_stepsBack : ByteArray := prog_13_method_48_code
def yX11_stepsBack : MethodName := ⟨RX11, "stepsBack", "(I)I"⟩
abbrev cX11_alone : ByteArray := prog_13_method_49_code
def yX11_alone : MethodName := ⟨RX11, "alone", "(IIII)I"⟩
abbrev cX11_leadsTo : ByteArray := prog_13_method_50_code
def yX11_leadsTo : MethodName := ⟨RX11, "leadsTo", "(III)Z"⟩
abbrev cX11_wayTo : ByteArray := prog_13_method_51_code
def yX11_wayTo : MethodName := ⟨RX11, "wayTo", "(II)I"⟩
abbrev cX11_findFar : ByteArray := prog_13_method_52_code
def yX11_findFar : MethodName := ⟨RX11, "findFar", "(I)Z"⟩
abbrev cX11_strokes : ByteArray := prog_13_method_53_code
def yX11_strokes : MethodName := ⟨RX11, "strokes", "(III)I"⟩
abbrev cX11_seen : ByteArray := prog_13_method_54_code
def yX11_seen : MethodName := ⟨RX11, "seen", "(II)I"⟩
abbrev cX11_forget : ByteArray := prog_13_method_55_code
def yX11_forget : MethodName := ⟨RX11, "forget", "()I"⟩
abbrev cX11_isFit : ByteArray := prog_13_method_56_code
def yX11_isFit : MethodName := ⟨RX11, "isFit", "(I)Z"⟩
abbrev cX11_findFits : ByteArray := prog_13_method_57_code
def yX11_findFits : MethodName := ⟨RX11, "findFits", "()V"⟩
abbrev cX11_sent : ByteArray := prog_13_method_58_code
def yX11_sent : MethodName := ⟨RX11, "sent", "(I)I"⟩
abbrev cX11_mostNow : ByteArray := prog_13_method_59_code
def yX11_mostNow : MethodName := ⟨RX11, "mostNow", "()I"⟩
abbrev cX11_ask : ByteArray := prog_13_method_60_code
def yX11_ask : MethodName := ⟨RX11, "ask", "(I)I"⟩
abbrev cX11_digit : ByteArray := prog_13_method_61_code
def yX11_digit : MethodName := ⟨RX11, "digit", "(II)I"⟩
abbrev cX11_tenTo : ByteArray := prog_13_method_62_code
def yX11_tenTo : MethodName := ⟨RX11, "tenTo", "(I)I"⟩
abbrev cX11_leastTake : ByteArray := prog_13_method_63_code
def yX11_leastTake : MethodName := ⟨RX11, "leastTake", "(II)I"⟩
abbrev cX11_chalk : ByteArray := prog_13_method_64_code
def yX11_chalk : MethodName := ⟨RX11, "chalk", "(III)I"⟩
abbrev cX11_lowest : ByteArray := prog_13_method_65_code
def yX11_lowest : MethodName := ⟨RX11, "lowest", "(JJI)J"⟩
abbrev cX11_power : ByteArray := prog_13_method_66_code
def yX11_power : MethodName := ⟨RX11, "power", "(JI)J"⟩
abbrev cX11_findChance : ByteArray := prog_13_method_67_code
def yX11_findChance : MethodName := ⟨RX11, "findChance", "(IIII)V"⟩
abbrev cX11_match : ByteArray := prog_13_method_68_code
def yX11_match : MethodName := ⟨RX11, "match", "(IIIIII)J"⟩
abbrev cX11_actBy : ByteArray := prog_13_method_69_code
def yX11_actBy : MethodName := ⟨RX11, "actBy", "(I)I"⟩
abbrev cX11_season : ByteArray := prog_13_method_70_code
def yX11_season : MethodName := ⟨RX11, "season", "(III)I"⟩
abbrev cX11_pass : ByteArray := prog_13_method_71_code
def yX11_pass : MethodName := ⟨RX11, "pass", "(I)I"⟩
abbrev cX11_passRow : ByteArray := prog_13_method_72_code
def yX11_passRow : MethodName := ⟨RX11, "passRow", "([II)V"⟩
abbrev cX11_passAll : ByteArray := prog_13_method_73_code
def yX11_passAll : MethodName := ⟨RX11, "passAll", "()V"⟩
abbrev cX11_image : ByteArray := prog_13_method_74_code
def yX11_image : MethodName := ⟨RX11, "image", "(I)I"⟩
abbrev cX11_restore : ByteArray := prog_13_method_75_code
def yX11_restore : MethodName := ⟨RX11, "restore", "(I)I"⟩
abbrev cX11_told : ByteArray := prog_13_method_76_code
def yX11_told : MethodName := ⟨RX11, "told", "(I)I"⟩
def RJ13 : String := "java/lang/Long"
def TJ13 : u_T := fun k => match k with
  | _ => ("", "", "", false)
def tyJ13 : Nat → FieldType := fun k => match k with
  | _ => .int
abbrev cJ13_bitCount_95d88 : ByteArray := prog_14_method_50_code
def yJ13_bitCount_95d88 : MethodName := ⟨RJ13, "bitCount", "(J)I"⟩
def RJ9 : String := "java/lang/Math"
def TJ9 : u_T := fun k => match k with
  | _ => ("", "", "", false)
def tyJ9 : Nat → FieldType := fun k => match k with
  | _ => .int
abbrev cJ9_floorMod_7cf53 : ByteArray := prog_15_method_50_code
def yJ9_floorMod_7cf53 : MethodName := ⟨RJ9, "floorMod", "(II)I"⟩
abbrev cJ9_max_7cf53 : ByteArray := prog_15_method_65_code
def yJ9_max_7cf53 : MethodName := ⟨RJ9, "max", "(II)I"⟩
abbrev cJ9_max_f86c9 : ByteArray := prog_15_method_66_code
def yJ9_max_f86c9 : MethodName := ⟨RJ9, "max", "(JJ)J"⟩
def RL : String := "BaizeCorpsLaw"
abbrev cL_law : ByteArray := code
def yL_law : MethodName := ⟨RL, "law", "([I)Z"⟩
abbrev vwCl : List vw_C := [(RX0, TX0, 2), (RX1, TX1, 3), (RX3, TX3, 2), (RX4, TX4, 3), (RX5, TX5, 7), (RX6, TX6, 4), (RX7, TX7, 3), (RX8, TX8, 8), (RX9, TX9, 5), (RX10, TX10, 8), (RX11, TX11, 42)]
end
section
/-! THE SMALL MACHINE: a pure reading of the bytecode over a fixed stock of objects, and that the kit's machine follows it -/
-- stores: the int fields and elements, the long fields and elements, by object and place
abbrev bz_S : Type := (Nat → Nat → Int32) × (Nat → Nat → Int64)
-- the script: what it holds, how long it is
abbrev bz_X : Type := (Nat → Int32) × Nat
-- a place: pc, locals, stack, store
abbrev bz_A : Type := Nat × List (Option Value) × List Value × bz_S
abbrev bz_Op : Type := bz_X → Nat → List (Option Value) → List Value → bz_S → Option (Option Prop × bz_A)
-- a row of a method: its pc, and an operation, or a call (of which, with how many words, the receiver's class and 1, or 0), or an answer (0 none, 1 int, 2 long, 3 boolean)
abbrev bz_E : Type := Nat × (bz_Op ⊕ (Nat × Nat × Nat) ⊕ Nat)
-- the stock: (0, number of its class, where its reference fields lead) or (1, kind of array, [length ..])
abbrev bz_Sh : Type := Nat × Nat × List Nat
def bz_up {α : Type} (f : Nat → Nat → α) (o k : Nat) (x : α) : Nat → Nat → α := fun o' k' => if o' = o ∧ k' = k then x else f o' k'
theorem bz_up_s {α : Type} {f : Nat → Nat → α} {o k : Nat} {x : α} : bz_up f o k x o k = x := by simp [bz_up]
theorem bz_up_o {α : Type} {f : Nat → Nat → α} {o k o' k' : Nat} {x : α} (h : o' ≠ o) : bz_up f o k x o' k' = f o' k' := by simp [bz_up, h]
theorem bz_up_k {α : Type} {f : Nat → Nat → α} {o k o' k' : Nat} {x : α} (h : k' ≠ k) : bz_up f o k x o' k' = f o' k' := by simp [bz_up, h]
-- kinds of the fields of each class: 0 int, 1 long, 2 reference, 3 boolean
def bz_fk : Nat → List Nat
  | 0 => [2, 3]
  | 1 => [2, 2, 3]
  | 2 => [2, 0]
  | 3 => [2, 2, 0]
  | 4 => [0, 0, 0, 0, 0, 0, 0]
  | 5 => [2, 0, 0, 0]
  | 6 => [2, 0, 1]
  | 7 => [2, 2, 0, 0, 0, 0, 0, 0]
  | 8 => [2, 0, 0, 0, 2]
  | 9 => [2, 2, 2, 2, 2, 2, 2, 2]
  | 10 => [2, 0, 0, 0, 2, 2, 0, 2, 0, 2, 2, 2, 2, 0, 0, 0, 0, 0, 0, 0, 0, 0, 0, 0, 0, 2, 2, 0, 0, 0, 2, 2, 2, 2, 0, 2, 2, 2, 2, 2, 0, 3]
  | _ => []
def bz_sh : List bz_Sh := [(0, 9, [1, 3, 6, 8, 12, 14, 17, 19]),
  (0, 5, [2]), (1, 0, [3]), (0, 3, [4, 5]), (1, 0, [8]), (1, 0, [8]), (0, 2, [7]), (1, 0, [60]),
  (0, 7, [9, 11]), (0, 5, [10]), (1, 0, [3]), (0, 4, []), (0, 6, [13]), (1, 0, [16]), (0, 8, [15, 0, 0, 0, 16]), (1, 0, [360]), (1, 0, [720]),
  (0, 0, [18]), (1, 0, [100]), (1, 3, [2, 20, 26]),
  (0, 1, [21, 23]), (0, 5, [22]), (1, 0, [3]), (0, 3, [24, 25]), (1, 0, [8]), (1, 0, [8]),
  (0, 1, [27, 29]), (0, 5, [28]), (1, 0, [3]), (0, 3, [30, 31]), (1, 0, [8]), (1, 0, [8]),
  (0, 10, [33, 0, 0, 0, 34, 35, 0, 36, 0, 37, 38, 39, 40, 0, 0, 0, 0, 0, 0, 0, 0, 0, 0, 0, 0, 41, 42, 0, 0, 0, 43, 44, 45, 46, 0, 47, 48, 49, 50, 51]),
  (1, 0, [3]), (1, 0, [8]), (1, 0, [8]), (1, 0, [60]), (1, 0, [60]), (1, 0, [60]), (1, 0, [60]), (1, 0, [60]), (1, 0, [3]), (1, 0, [6]), (1, 2, [45]), (1, 0, [45]),
  (1, 0, [360]), (1, 0, [360]), (1, 0, [45]), (1, 2, [2000]), (1, 1, [81]), (1, 0, [60]), (1, 2, [2])]
-- the static tables and the script: 1000 first cells, 1001 row steps, 1002 column steps, 1003 the script
def bz_tn (X : bz_X) : Nat → Nat
  | 0 => 3
  | 1 => 8
  | 2 => 8
  | _ => X.2
def bz_tv (X : bz_X) : Nat → Nat → Int32
  | 0 => fun k => [(10 : Int32), 16, 24].getD k 0
  | 1 => fun k => [(-1 : Int32), -1, 0, 1, 1, 1, 0, -1].getD k 0
  | 2 => fun k => [(0 : Int32), 1, 1, 1, 0, -1, -1, -1].getD k 0
  | _ => X.1
def bz_isO (o ci : Nat) : Bool := match bz_sh[o]? with
  | some (0, c, _) => Nat.beq c ci
  | _ => false
def bz_isA (o ty : Nat) : Option Nat := match bz_sh[o]? with
  | some (1, t, n :: _) => bif Nat.beq t ty then some n else none
  | _ => none
def bz_ref (o k : Nat) : Nat := match bz_sh[o]? with
  | some (0, _, r) => r.getD k 0
  | some (_, _, _ :: r) => r.getD k 0
  | _ => 0
-- ===== operations =====
def bz_push (v : Value) (len : Nat) : bz_Op := fun _ pc L st σ => some (none, pc + len, L, v :: st, σ)
def bz_iload (i len : Nat) : bz_Op := fun _ pc L st σ => match L[i]? with
  | some (some (.int x)) => some (none, pc + len, L, .int x :: st, σ)
  | _ => none
def bz_lload (i len : Nat) : bz_Op := fun _ pc L st σ => match L[i]? with
  | some (some (.long x)) => some (none, pc + len, L, .long x :: st, σ)
  | _ => none
def bz_aload (i len : Nat) : bz_Op := fun _ pc L st σ => match L[i]? with
  | some (some (.ref x)) => some (none, pc + len, L, .ref x :: st, σ)
  | _ => none
def bz_kl (L : List (Option Value)) (i : Nat) : List (Option Value) := match i with
  | 0 => L
  | j + 1 => match L[j]? with
    | some (some (.long _)) => L.set j none
    | some (some (.double _)) => L.set j none
    | _ => L
def bz_istore (i len : Nat) : bz_Op := fun _ pc L st σ => match st with
  | .int x :: r => bif Nat.blt i L.length then some (none, pc + len, (bz_kl L i).set i (some (.int x)), r, σ) else none
  | _ => none
def bz_lstore (i len : Nat) : bz_Op := fun _ pc L st σ => match st with
  | .long x :: r => bif Nat.blt (i + 1) L.length then some (none, pc + len, ((bz_kl L i).set i (some (.long x))).set (i + 1) none, r, σ) else none
  | _ => none
def bz_iinc (i : Nat) (n : Int32) : bz_Op := fun _ pc L st σ => match L[i]? with
  | some (some (.int x)) => some (none, pc + 3, (bz_kl L i).set i (some (.int (x + n))), st, σ)
  | _ => none
def bz_ii (f : Int32 → Int32 → Int32) : bz_Op := fun _ pc L st σ => match st with
  | .int y :: .int x :: r => some (none, pc + 1, L, .int (f x y) :: r, σ)
  | _ => none
def bz_ig (f : Int32 → Int32 → Int32) : bz_Op := fun _ pc L st σ => match st with
  | .int y :: .int x :: r => some (some (¬ y = 0), pc + 1, L, .int (f x y) :: r, σ)
  | _ => none
def bz_ll (f : Int64 → Int64 → Int64) : bz_Op := fun _ pc L st σ => match st with
  | .long y :: .long x :: r => some (none, pc + 1, L, .long (f x y) :: r, σ)
  | _ => none
def bz_lg (f : Int64 → Int64 → Int64) : bz_Op := fun _ pc L st σ => match st with
  | .long y :: .long x :: r => some (some (¬ y = 0), pc + 1, L, .long (f x y) :: r, σ)
  | _ => none
def bz_li (f : Int64 → Int32 → Int64) : bz_Op := fun _ pc L st σ => match st with
  | .int y :: .long x :: r => some (none, pc + 1, L, .long (f x y) :: r, σ)
  | _ => none
def bz_i2l : bz_Op := fun _ pc L st σ => match st with
  | .int x :: r => some (none, pc + 1, L, .long x.toInt64 :: r, σ)
  | _ => none
def bz_l2i : bz_Op := fun _ pc L st σ => match st with
  | .long x :: r => some (none, pc + 1, L, .int x.toInt32 :: r, σ)
  | _ => none
def bz_lcmp : bz_Op := fun _ pc L st σ => match st with
  | .long y :: .long x :: r => some (none, pc + 1, L, .int (lg_cmp x y) :: r, σ)
  | _ => none
def bz_dup : bz_Op := fun _ pc L st σ => match st with
  | .int x :: r => some (none, pc + 1, L, .int x :: .int x :: r, σ)
  | .ref x :: r => some (none, pc + 1, L, .ref x :: .ref x :: r, σ)
  | _ => none
def bz_pop1 : bz_Op := fun _ pc L st σ => match st with
  | .int _ :: r => some (none, pc + 1, L, r, σ)
  | _ => none
def bz_dup2 : bz_Op := fun _ pc L st σ => match st with
  | .int x :: .ref y :: r => some (none, pc + 1, L, .int x :: .ref y :: .int x :: .ref y :: r, σ)
  | _ => none
def bz_goto (t : Nat) : bz_Op := fun _ _ L st σ => some (none, t, L, st, σ)
def bz_ifi (f : Int32 → Prop) (d : ∀ x, Decidable (f x)) (t : Nat) : bz_Op := fun _ pc L st σ => match st with
  | .int x :: r => some (none, @ite _ (f x) (d x) (t, L, r, σ) (pc + 3, L, r, σ))
  | _ => none
def bz_icm (f : Int32 → Int32 → Prop) (d : ∀ x y, Decidable (f x y)) (t : Nat) : bz_Op := fun _ pc L st σ => match st with
  | .int y :: .int x :: r => some (none, @ite _ (f x y) (d x y) (t, L, r, σ) (pc + 3, L, r, σ))
  | _ => none
def bz_sw (x : Int) : List (Int × Nat) → Nat → Nat
  | [], d => d
  | (k, t) :: r, d => if x = k then t else bz_sw x r d
def bz_switch (cs : List (Int × Nat)) (d : Nat) : bz_Op := fun _ _ L st σ => match st with
  | .int x :: r => some (none, bz_sw x.toInt cs d, L, r, σ)
  | _ => none
def bz_getI (ci k : Nat) : bz_Op := fun _ pc L st σ => match st with
  | .ref o :: r => bif bz_isO o ci then some (none, pc + 3, L, .int (σ.1 o k) :: r, σ) else none
  | _ => none
def bz_getL (ci k : Nat) : bz_Op := fun _ pc L st σ => match st with
  | .ref o :: r => bif bz_isO o ci then some (none, pc + 3, L, .long (σ.2 o k) :: r, σ) else none
  | _ => none
def bz_getR (ci k : Nat) : bz_Op := fun _ pc L st σ => match st with
  | .ref o :: r => bif bz_isO o ci then some (none, pc + 3, L, .ref (bz_ref o k) :: r, σ) else none
  | _ => none
def bz_putI (ci k : Nat) : bz_Op := fun _ pc L st σ => match st with
  | .int x :: .ref o :: r => bif bz_isO o ci then some (none, pc + 3, L, r, (bz_up σ.1 o k x, σ.2)) else none
  | _ => none
def bz_putZ (ci k : Nat) : bz_Op := fun _ pc L st σ => match st with
  | .int x :: .ref o :: r => bif bz_isO o ci then some (some (x = 0 ∨ x = 1), pc + 3, L, r, (bz_up σ.1 o k x, σ.2)) else none
  | _ => none
def bz_putL (ci k : Nat) : bz_Op := fun _ pc L st σ => match st with
  | .long x :: .ref o :: r => bif bz_isO o ci then some (none, pc + 3, L, r, (σ.1, bz_up σ.2 o k x)) else none
  | _ => none
def bz_iald : bz_Op := fun X pc L st σ => match st with
  | .int i :: .ref o :: r => bif Nat.blt o 1000 then (match bz_isA o 0 with
    | some n => some (some (vp_in i n), pc + 1, L, .int (σ.1 o i.toNatClampNeg) :: r, σ)
    | none => none) else (bif Nat.blt o 1004 then some (some (vp_in i (bz_tn X (o - 1000))), pc + 1, L, .int (bz_tv X (o - 1000) i.toNatClampNeg) :: r, σ) else none)
  | _ => none
def bz_iast : bz_Op := fun _ pc L st σ => match st with
  | .int x :: .int i :: .ref o :: r => (match bz_isA o 0 with
    | some n => some (some (vp_in i n), pc + 1, L, r, (bz_up σ.1 o i.toNatClampNeg x, σ.2))
    | none => none)
  | _ => none
def bz_zald : bz_Op := fun _ pc L st σ => match st with
  | .int i :: .ref o :: r => (match bz_isA o 2 with
    | some n => some (some (vp_in i n), pc + 1, L, .int (σ.1 o i.toNatClampNeg) :: r, σ)
    | none => none)
  | _ => none
def bz_zast : bz_Op := fun _ pc L st σ => match st with
  | .int x :: .int i :: .ref o :: r => (match bz_isA o 2 with
    | some n => some (some (vp_in i n ∧ (x = 0 ∨ x = 1)), pc + 1, L, r, (bz_up σ.1 o i.toNatClampNeg x, σ.2))
    | none => none)
  | _ => none
def bz_lald : bz_Op := fun _ pc L st σ => match st with
  | .int i :: .ref o :: r => (match bz_isA o 1 with
    | some n => some (some (vp_in i n), pc + 1, L, .long (σ.2 o i.toNatClampNeg) :: r, σ)
    | none => none)
  | _ => none
def bz_last : bz_Op := fun _ pc L st σ => match st with
  | .long x :: .int i :: .ref o :: r => (match bz_isA o 1 with
    | some n => some (some (vp_in i n), pc + 1, L, r, (σ.1, bz_up σ.2 o i.toNatClampNeg x))
    | none => none)
  | _ => none
def bz_aald : bz_Op := fun _ pc L st σ => match st with
  | .int i :: .ref o :: r => (match bz_isA o 3 with
    | some n => some (some (vp_in i n), pc + 1, L, .ref (bz_ref o i.toNatClampNeg) :: r, σ)
    | none => none)
  | _ => none
def bz_slen : bz_Op := fun X pc L st σ => match st with
  | .ref o :: r => bif Nat.beq o 1003 then some (none, pc + 1, L, .int (nI X.2) :: r, σ) else none
  | _ => none
-- ===== runs =====
def bz_lk : List bz_E → Nat → Option (bz_Op ⊕ (Nat × Nat × Nat) ⊕ Nat)
  | [], _ => none
  | q :: r, pc => bif Nat.beq q.1 pc then some q.2 else bz_lk r pc
def bz_st1 (X : bz_X) (T : List bz_E) (a : bz_A) : Option (Option Prop × bz_A) := match bz_lk T a.1 with
  | some (.inl f) => f X a.1 a.2.1 a.2.2.1 a.2.2.2
  | _ => none
def bz_and (g : Option Prop) (G : Prop) : Prop := match g with
  | none => G
  | some p => p ∧ G
def bz_run (X : bz_X) (T : List bz_E) : Nat → bz_A → Option (Prop × bz_A)
  | 0, a => some (True, a)
  | n + 1, a => match bz_st1 X T a with
    | some (g, a') => match bz_run X T n a' with
      | some (G, b) => some (bz_and g G, b)
      | none => none
    | none => none
-- what an answer of a kind leaves
def bz_rv : Nat → List Value → Option (Option Value)
  | 0, [] => some none
  | 1, [.int x] => some (some (.int x))
  | 2, [.long x] => some (some (.long x))
  | 3, [.int x] => some (some (.int x))
  | _, _ => none
def bz_rg : Nat → List Value → Prop
  | 3, [.int x] => x = 0 ∨ x = 1
  | _, _ => True
-- a receiver of the class
def bz_rc (vk : Nat) (as : List Value) : Bool := match vk with
  | 0 => true
  | ci + 1 => match as with
    | .ref o :: _ => bz_isO o ci
    | _ => false
-- the locals at a method's start
def bz_in0 : List Value → List (Option Value)
  | [] => []
  | .long x :: r => some (.long x) :: none :: bz_in0 r
  | .double x :: r => some (.double x) :: none :: bz_in0 r
  | v :: r => some v :: bz_in0 r
def bz_in (n : Nat) (as : List Value) : List (Option Value) := bz_in0 as ++ List.replicate (n - (bz_in0 as).length) none
def bz_le : List (Option Value) → List (Option Value) → Prop
  | [], [] => True
  | none :: a, _ :: b => bz_le a b
  | some x :: a, some y :: b => x = y ∧ bz_le a b
  | _, _ => False
abbrev bz_Q : Type := Option Value → bz_S → Prop
-- a method: its class's name, its name, bytes, number of locals, answer, room (frames, locals), rows
abbrev bz_M : Type := String × MethodName × ByteArray × Nat × Option FieldType × Nat × Nat × List bz_E
def bz_cat (st : List Value) : Nat := (st.map fun v => v.category).sum
def bz_Cl (P : Nat → bz_M) (X : bz_X) (Z : Nat → bz_Q → bz_A → Prop) : Prop :=
  (∀ k Q a g b, bz_st1 X (P k).2.2.2.2.2.2.2 a = some (g, b) → bz_and g True → Z k Q b → Z k Q a) ∧
  (∀ k Q L L' pc st σ, bz_le L' L → Z k Q (pc, L', st, σ) → Z k Q (pc, L, st, σ)) ∧
  (∀ k Q pc L as rest σ j n vk Qc, bz_lk (P k).2.2.2.2.2.2.2 pc = some (.inr (.inl (j, n, vk))) → as.length = n → (bz_in0 as).length ≤ (P j).2.2.2.1 → bz_cat rest ≤ 8 → bz_rc vk as = true → Z j Qc (0, bz_in (P j).2.2.2.1 as, [], σ) → (∀ v σ', Qc v σ' → Z k Q (pc + 3, L, v.toList ++ rest, σ')) → Z k Q (pc, L, as.reverse ++ rest, σ)) ∧
  (∀ (k : Nat) (Q : bz_Q) pc L st σ j v, bz_lk (P k).2.2.2.2.2.2.2 pc = some (.inr (.inr j)) → bz_rv j st = some v → bz_rg j st → Q v σ → Z k Q (pc, L, st, σ)) ∧
  (∀ (k : Nat) (Q Q' : bz_Q) a, (∀ v σ, Q v σ → Q' v σ) → Z k Q a → Z k Q' a)
def bz_wp (P : Nat → bz_M) (X : bz_X) (k : Nat) (Q : bz_Q) (a : bz_A) : Prop := ∀ Z, bz_Cl P X Z → Z k Q a
section PW
variable {P : Nat → bz_M} {X : bz_X} {k : Nat} {Q : bz_Q}
theorem bz_wp1 {a b : bz_A} {g : Option Prop} (h : bz_st1 X (P k).2.2.2.2.2.2.2 a = some (g, b)) (hg : bz_and g True) (w : bz_wp P X k Q b) : bz_wp P X k Q a := fun Z hZ => hZ.1 k Q a g b h hg (w Z hZ)
theorem bz_and_1 {g : Option Prop} {G : Prop} (h : bz_and g G) : bz_and g True ∧ G := by
  cases g with
  | none => exact ⟨trivial, h⟩
  | some p => exact ⟨⟨h.1, trivial⟩, h.2⟩
theorem bz_wpn' (n : Nat) : ∀ {a b : bz_A} {G : Prop}, bz_run X (P k).2.2.2.2.2.2.2 n a = some (G, b) → G → bz_wp P X k Q b → bz_wp P X k Q a := by
  induction n with
  | zero =>
    intro a b G h hG w
    simp only [bz_run, Option.some.injEq, Prod.mk.injEq] at h
    rw [h.2]; exact w
  | succ n ih =>
    intro a b G h hG w
    simp only [bz_run] at h
    split at h
    · rename_i g a' h1
      split at h
      · rename_i G' b' h2
        simp only [Option.some.injEq, Prod.mk.injEq] at h
        obtain ⟨rfl, rfl⟩ := h
        obtain ⟨hg, hG'⟩ := bz_and_1 hG
        exact bz_wp1 h1 hg (ih h2 hG' w)
      · cases h
    · cases h
/-- n steps at once -/
theorem bz_wpn {T : List bz_E} (hT : (P k).2.2.2.2.2.2.2 = T) (n : Nat) {a b : bz_A} {G : Prop} (h : bz_run X T n a = some (G, b)) (hG : G) (w : bz_wp P X k Q b) : bz_wp P X k Q a := by
  subst hT; exact bz_wpn' n h hG w
/-- n steps, the last of them a branch -/
theorem bz_wpb {T : List bz_E} (hT : (P k).2.2.2.2.2.2.2 = T) (n : Nat) {a b1 b2 : bz_A} {G C : Prop} {d : Decidable C} (h : bz_run X T n a = some (G, @ite _ C d b1 b2)) (hG : G) (w1 : C → bz_wp P X k Q b1) (w2 : ¬ C → bz_wp P X k Q b2) : bz_wp P X k Q a := by
  refine bz_wpn hT n h hG ?_
  cases d with
  | isTrue hc => exact w1 hc
  | isFalse hc => exact w2 hc
theorem bz_wpw {L L' : List (Option Value)} {pc : Nat} {st : List Value} {σ : bz_S} (hl : bz_le L' L) (w : bz_wp P X k Q (pc, L', st, σ)) : bz_wp P X k Q (pc, L, st, σ) := fun Z hZ => hZ.2.1 k Q L L' pc st σ hl (w Z hZ)
theorem bz_wpc {T : List bz_E} (hT : (P k).2.2.2.2.2.2.2 = T) {pc : Nat} {L : List (Option Value)} {st rest : List Value} {σ : bz_S} {j n vk : Nat} (as : List Value) {Qc : bz_Q} (hl : bz_lk T pc = some (.inr (.inl (j, n, vk)))) (hn : as.length = n) (hm : (bz_in0 as).length ≤ (P j).2.2.2.1) (hst : st = as.reverse ++ rest) (hr : bz_cat rest ≤ 8) (hv : bz_rc vk as = true) (hc : bz_wp P X j Qc (0, bz_in (P j).2.2.2.1 as, [], σ)) (kk : ∀ v σ', Qc v σ' → bz_wp P X k Q (pc + 3, L, v.toList ++ rest, σ')) : bz_wp P X k Q (pc, L, st, σ) := by
  subst hT; subst hst
  exact fun Z hZ => hZ.2.2.1 k Q pc L as rest σ j n vk Qc hl hn hm hr hv (hc Z hZ) (fun v σ' hv => kk v σ' hv Z hZ)
theorem bz_wpr {T : List bz_E} (hT : (P k).2.2.2.2.2.2.2 = T) {pc : Nat} {L : List (Option Value)} {st : List Value} {σ : bz_S} {j : Nat} {v : Option Value} (hl : bz_lk T pc = some (.inr (.inr j))) (hv : bz_rv j st = some v) (hg : bz_rg j st) (hQ : Q v σ) : bz_wp P X k Q (pc, L, st, σ) := by
  subst hT
  exact fun Z hZ => hZ.2.2.2.1 k Q pc L st σ j v hl hv hg hQ
theorem bz_wpm {Q' : bz_Q} {a : bz_A} (w : bz_wp P X k Q a) (h : ∀ v σ, Q v σ → Q' v σ) : bz_wp P X k Q' a := fun Z hZ => hZ.2.2.2.2 k Q Q' a h (w Z hZ)
end PW
/-- a method's contract: started with these words, it ends with Q -/
def bz_C (P : Nat → bz_M) (X : bz_X) (k : Nat) (as : List Value) (σ : bz_S) (Q : bz_Q) : Prop := bz_wp P X k Q (0, bz_in (P k).2.2.2.1 as, [], σ)
end
section
/-! THE KIT'S MACHINE FOLLOWS THE SMALL MACHINE -/
def bz_cz (ad : Nat → Nat) : Value → Value
  | .ref o => .ref (ad o)
  | v => v
def bz_fv (ad : Nat → Nat) (σ : bz_S) (o : Nat) (ps : List Nat) (k kind : Nat) : Value := match kind with
  | 1 => .long (σ.2 o k)
  | 2 => .ref (ad (ps.getD k 0))
  | _ => .int (σ.1 o k)
def bz_cell (ad : Nat → Nat) (ca : Nat → ClassId) (σ : bz_S) (o : Nat) (sh : bz_Sh) : va_E := match sh with
  | (0, ci, ps) => .inr (ci, (List.range (bz_fk ci).length).map (fun k => bz_fv ad σ o ps k ((bz_fk ci).getD k 0)))
  | (_, 1, ns) => .inl (ca 1, ns.getD 0 0, .inr (.inl (σ.2 o)))
  | (_, 3, ns) => .inl (ca 3, ns.getD 0 0, .inr (.inr (.inr (.inr (fun k => some (ad (ns.getD (k + 1) 0)))))))
  | (_, t, ns) => .inl (ca t, ns.getD 0 0, .inl (σ.1 o))
def bz_W (ad : Nat → Nat) (ca : Nat → ClassId) (σ : bz_S) : va_W := bz_sh.mapIdx (fun o sh => (ad o, bz_cell ad ca σ o sh))
def bz_tys (ca : Nat → ClassId) : List (ClassId × FieldType) := [(ca 0, .int), (ca 1, .long), (ca 2, .boolean), (ca 3, .object "BaizeCorps$Image")]
def bz_lv (ad : Nat → Nat) (L : List (Option Value)) : List (Nat × Value) := (List.range L.length).filterMap (fun i => match L[i]? with
  | some (some v) => some (i, bz_cz ad v)
  | _ => none)
-- words
def bz_TB : List Cond := lw_tbl.filter goodWord
def bz_NB : List Cond := lw_tbl.filter (fun w => match w with
  | .methodLinkNest .. => true
  | .fieldLinkNest .. => true
  | _ => false)
def bz_sn : Nat → String
  | 0 => "FIRST_CELLS"
  | 1 => "ROW_STEPS"
  | _ => "COLUMN_STEPS"
theorem bz_cz_cat (ad : Nat → Nat) (v : Value) : (bz_cz ad v).category = v.category := by cases v <;> rfl
theorem bz_lv_mem {ad : Nat → Nat} {L : List (Option Value)} {q : Nat × Value} : q ∈ bz_lv ad L ↔ ∃ v, L[q.1]? = some (some v) ∧ q.2 = bz_cz ad v := by
  obtain ⟨i, w⟩ := q
  simp only [bz_lv, List.mem_filterMap, List.mem_range]
  constructor
  · rintro ⟨j, hj, h⟩
    split at h
    · rename_i v hv
      cases h
      exact ⟨v, hv, rfl⟩
    · cases h
  · rintro ⟨v, hv, rfl⟩
    have hl := (List.getElem?_eq_some_iff.mp hv).1
    exact ⟨i, hl, by rw [hv]⟩
theorem bz_lv_mono {ls : Array Slot} {n : Nat} {l l' : List (Nat × Value)} (h : lv_has ls n l) (hs : ∀ q ∈ l', q ∈ l) : lv_has ls n l' := ⟨h.1, h.2.1, fun q hq => h.2.2 q (hs q hq)⟩
theorem bz_lv_at {ad : Nat → Nat} {L : List (Option Value)} {ls : Array Slot} {n i : Nat} {v : Value} (h : lv_has ls n (bz_lv ad L)) (hv : L[i]? = some (some v)) : ls[i]? = some (.val (bz_cz ad v)) := h.2.2 (i, bz_cz ad v) (bz_lv_mem.mpr ⟨v, hv, rfl⟩)
theorem bz_le_mem : ∀ {L' L : List (Option Value)}, bz_le L' L → ∀ (i : Nat) (v : Value), L'[i]? = some (some v) → L[i]? = some (some v)
  | [], [], _, i, v, h => by simp at h
  | none :: a, y :: b, hl, i, v, h => by
    cases i with
    | zero => simp at h
    | succ i => simpa using bz_le_mem (L' := a) (L := b) hl i v (by simpa using h)
  | some x :: a, some y :: b, hl, i, v, h => by
    obtain ⟨rfl, hl⟩ := hl
    cases i with
    | zero => exact h
    | succ i => simpa using bz_le_mem (L' := a) (L := b) hl i v (by simpa using h)
  | some x :: a, none :: b, hl, _, _, _ => hl.elim
  | none :: a, [], hl, _, _, _ => hl.elim
  | some x :: a, [], hl, _, _, _ => hl.elim
  | [], y :: b, hl, _, _, _ => hl.elim
theorem bz_kl_mem {L : List (Option Value)} {i j : Nat} {v : Value} (h : (bz_kl L i)[j]? = some (some v)) : L[j]? = some (some v) ∧ ¬ (j + 1 = i ∧ v.category = 2) := by
  have key : ∀ (i' : Nat) (w : Value), L[i']? = some (some w) → (L.set i' none)[j]? = some (some v) → L[j]? = some (some v) ∧ ¬ (j + 1 = i' + 1 ∧ v.category = 2) := by
    intro i' w hL h
    by_cases hj : j = i'
    · subst hj
      rw [List.getElem?_set_self (List.getElem?_eq_some_iff.mp hL).1] at h
      cases h
    · rw [List.getElem?_set_ne (Ne.symm hj)] at h
      exact ⟨h, fun z => hj (by omega)⟩
  cases i with
  | zero => exact ⟨h, fun z => by omega⟩
  | succ i =>
    simp only [bz_kl] at h
    split at h
    · rename_i x hL
      exact key i _ hL h
    · rename_i x hL
      exact key i _ hL h
    · rename_i hn1 hn2
      refine ⟨h, fun z => ?_⟩
      have hj : j = i := by omega
      subst hj
      cases v with
      | long x => exact hn1 x h
      | double x => exact hn2 x h
      | _ => simp [Value.category] at z
theorem bz_kl_len (L : List (Option Value)) (i : Nat) : (bz_kl L i).length = L.length := by
  cases i with
  | zero => rfl
  | succ i =>
    simp only [bz_kl]
    split <;> simp

theorem bz_W_at {ad : Nat → Nat} {ca : Nat → ClassId} {σ : bz_S} {o : Nat} {sh : bz_Sh} (h : bz_sh[o]? = some sh) : (bz_W ad ca σ)[o]? = some (ad o, bz_cell ad ca σ o sh) := by
  simp [bz_W, List.getElem?_mapIdx, h]
theorem bz_isO_sp {o ci : Nat} (h : bz_isO o ci = true) : ∃ ps, bz_sh[o]? = some (0, ci, ps) := by
  unfold bz_isO at h
  split at h
  · rename_i c ps hs
    have : c = ci := Nat.eq_of_beq_eq_true h
    subst this
    exact ⟨ps, hs⟩
  · cases h
theorem bz_isA_sp {o t n : Nat} (h : bz_isA o t = some n) : ∃ r, bz_sh[o]? = some (1, t, n :: r) := by
  unfold bz_isA at h
  split at h
  · rename_i t' n' r hs
    cases hb : Nat.beq t' t with
    | true =>
      rw [hb] at h
      have : t' = t := Nat.eq_of_beq_eq_true hb
      subst this
      cases h
      exact ⟨r, hs⟩
    | false => rw [hb] at h; cases h
  · cases h
theorem bz_fv_congr {ad : Nat → Nat} {σ σ' : bz_S} {o k kind : Nat} {ps : List Nat} (h1 : ∀ j, σ'.1 o j = σ.1 o j) (h2 : ∀ j, σ'.2 o j = σ.2 o j) : bz_fv ad σ' o ps k kind = bz_fv ad σ o ps k kind := by
  unfold bz_fv
  split
  · rw [h2]
  · rfl
  · rw [h1]
theorem bz_cell_congr {ad : Nat → Nat} {ca : Nat → ClassId} {σ σ' : bz_S} {o : Nat} (sh : bz_Sh) (h1 : ∀ j, σ'.1 o j = σ.1 o j) (h2 : ∀ j, σ'.2 o j = σ.2 o j) : bz_cell ad ca σ' o sh = bz_cell ad ca σ o sh := by
  have e1 : σ'.1 o = σ.1 o := funext h1
  have e2 : σ'.2 o = σ.2 o := funext h2
  unfold bz_cell
  split
  · simp only [bz_fv_congr h1 h2]
  · rw [e2]
  · rfl
  · rw [e1]
/-- a world with one cell changed -/
theorem bz_W_set {ad : Nat → Nat} {ca : Nat → ClassId} {σ σ' : bz_S} {o : Nat} {sh : bz_Sh} {e : va_E} (hs : bz_sh[o]? = some sh) (he : e = bz_cell ad ca σ' o sh) (ho : ∀ q, q ≠ o → ∀ j, σ'.1 q j = σ.1 q j ∧ σ'.2 q j = σ.2 q j) : (bz_W ad ca σ).set o (ad o, e) = bz_W ad ca σ' := by
  subst he
  apply List.ext_getElem?
  intro i
  by_cases hi : i = o
  · subst hi
    have hl : i < (bz_W ad ca σ).length := (List.getElem?_eq_some_iff.mp (bz_W_at (ad := ad) (ca := ca) (σ := σ) hs)).1
    rw [List.getElem?_set_self hl, bz_W_at hs]
  · rw [List.getElem?_set_ne (Ne.symm hi)]
    simp only [bz_W, List.getElem?_mapIdx]
    cases hq : bz_sh[i]? with
    | none => rfl
    | some sh' =>
      simp only [Option.map_some]
      rw [bz_cell_congr sh' (fun j => (ho i hi j).1) (fun j => (ho i hi j).2)]
/-- an object's fields with one of them changed -/
theorem bz_fs_set {ad : Nat → Nat} {σ σ' : bz_S} {o k n : Nat} {ps : List Nat} {kd : List Nat} {v : Value} (hv : bz_fv ad σ' o ps k (kd.getD k 0) = v) (h : ∀ j, j ≠ k → σ'.1 o j = σ.1 o j ∧ σ'.2 o j = σ.2 o j) : ((List.range n).map (fun j => bz_fv ad σ o ps j (kd.getD j 0))).set k v = (List.range n).map (fun j => bz_fv ad σ' o ps j (kd.getD j 0)) := by
  apply List.ext_getElem?
  intro i
  by_cases hi : i = k
  · subst hi
    by_cases hl : i < n
    · rw [List.getElem?_set_self (by simpa using hl), List.getElem?_map, List.getElem?_range hl, Option.map_some, hv]
    · rw [List.getElem?_eq_none (by simp; omega), List.getElem?_eq_none (by simp; omega)]
  · rw [List.getElem?_set_ne (Ne.symm hi)]
    simp only [List.getElem?_map]
    by_cases hl : i < n
    · have : bz_fv ad σ' o ps i (kd.getD i 0) = bz_fv ad σ o ps i (kd.getD i 0) := by
        unfold bz_fv
        split
        · rw [(h i hi).2]
        · rfl
        · rw [(h i hi).1]
      rw [List.getElem?_range hl, Option.map_some, Option.map_some, this]
    · simp [hl]

def bz_R (p : Program) (l : Launch) (e : Env) (R : Room) (s : State) (m : MethodId) (args : Array Value) (below : List Frame) (meth : Method) (c : Code) (Qf : State → Prop) (A : Nat → Prop) (ad : Nat → Nat) (ca : Nat → ClassId) (D : va_G) (cells slots nL : Nat) (a : bz_A) : Prop := a.2.1.length = nL → ∀ (H : Heap) (locs : List Loc) (ls : Array Slot), va_P D vwCl (bz_W ad ca a.2.2.2) H → va_D A (bz_W ad ca a.2.2.2) → va_S A s.heap H locs → lv_has ls nL (bz_lv ad a.2.1) → W p l e R s m args below meth c H locs cells slots Qf (F0 m a.1 ls (a.2.2.1.map (bz_cz ad)))
def bz_F (X : bz_X) (own : String) (bytes : ByteArray) (p : Program) (l : Launch) (e : Env) (R : Room) (s : State) (m : MethodId) (args : Array Value) (below : List Frame) (meth : Method) (c : Code) (Qf : State → Prop) (A : Nat → Prop) (ad : Nat → Nat) (ca : Nat → ClassId) (D : va_G) (cells slots nL : Nat) : Prop := p.tables.exec = Jvm.exec ∧ c.code = bytes ∧ c.maxLocals = nL ∧ s.vm.findClass own = some m.cls ∧ (∀ w ∈ bz_TB, w.before args s = true) ∧ (∀ w ∈ bz_NB, va_Nw w s) ∧ va_K D vwCl (bz_tys ca) s ∧ (∀ q : Nat, s.heap.size ≤ q → A q) ∧ (∀ i, i < 3 → va_Z "BaizeCorps" (bz_sn i) "[I" (.ref (ad (1000 + i))) A s s.heap) ∧ (∀ i, i < 4 → va_T .int (ad (1000 + i)) (bz_tn X i) (fun j => .int (bz_tv X i j)) A s s.heap) ∧ cells ≤ R.cells ∧ slots ≤ R.slots
def bz_ok (own : String) (bytes : ByteArray) (pc : Nat) (f : bz_Op) : Prop := ∀ (X : bz_X) (p : Program) (l : Launch) (e : Env) (R : Room) (s : State) (m : MethodId) (args : Array Value) (below : List Frame) (meth : Method) (c : Code) (Qf : State → Prop) (A : Nat → Prop) (ad : Nat → Nat) (ca : Nat → ClassId) (D : va_G) (cells slots nL : Nat), bz_F X own bytes p l e R s m args below meth c Qf A ad ca D cells slots nL → ∀ (L : List (Option Value)) (st : List Value) (σ : bz_S) (g : Option Prop) (b : bz_A), f X pc L st σ = some (g, b) → bz_and g True → bz_R p l e R s m args below meth c Qf A ad ca D cells slots nL b → bz_R p l e R s m args below meth c Qf A ad ca D cells slots nL (pc, L, st, σ)
theorem bz_lrem_eq (x y : Int64) : x - (x / y) * y = x % y := by
  apply Int64.toInt_inj.mp
  have h1 := Int64.le_toInt (x % y)
  have h2 := Int64.toInt_lt (x % y)
  rw [Int64.toInt_sub, Int64.toInt_mul, Int64.toInt_div, Int.bmod_mul_bmod, Int.sub_bmod_bmod, Int.mul_comm (x.toInt.tdiv y.toInt), ← Int.tmod_def, ← Int64.toInt_mod]
  exact Int.bmod_eq_of_le_mul_two (by omega) (by omega)
theorem bz_o1000 (o : Nat) (h1 : ¬ o < 1000) (h2 : o < 1004) : ∃ j, j < 4 ∧ o = 1000 + j := ⟨o - 1000, by omega, by omega⟩
section OK
variable {own : String} {bytes : ByteArray} {pc : Nat}

theorem bz_st1_mem {ad : Nat → Nat} {L : List (Option Value)} {i : Nat} {x : Int32} (hi : i < L.length) : ∀ q ∈ bz_lv ad ((bz_kl L i).set i (some (.int x))), q ∈ (i, Value.int x) :: (bz_lv ad L).filter (fun q => !(q.1 == i) && !(q.1 + 1 == i && q.2.category == 2)) := by
  rintro ⟨j, w⟩ hq
  obtain ⟨v, hv, hw⟩ := bz_lv_mem.mp hq
  dsimp only at hv hw
  subst hw
  by_cases hj : j = i
  · subst hj
    rw [List.getElem?_set_self (by rw [bz_kl_len]; exact hi)] at hv
    cases hv
    exact List.mem_cons_self
  · rw [List.getElem?_set_ne (Ne.symm hj)] at hv
    obtain ⟨h1, h2⟩ := bz_kl_mem hv
    refine List.mem_cons_of_mem _ (List.mem_filter.mpr ⟨bz_lv_mem.mpr ⟨v, h1, rfl⟩, ?_⟩)
    have h3 : ¬ (j + 1 = i ∧ (bz_cz ad v).category = 2) := by rw [bz_cz_cat]; exact h2
    simp only [Bool.and_eq_true, Bool.not_eq_true', beq_eq_false_iff_ne, ne_eq, Bool.and_eq_false_iff]
    refine ⟨hj, ?_⟩
    by_cases h4 : j + 1 = i
    · exact Or.inr (fun z => h3 ⟨h4, z⟩)
    · exact Or.inl h4
theorem bz_st2_mem {ad : Nat → Nat} {L : List (Option Value)} {i : Nat} {x : Int64} (hi : i + 1 < L.length) : ∀ q ∈ bz_lv ad (((bz_kl L i).set i (some (.long x))).set (i + 1) none), q ∈ (i, Value.long x) :: (bz_lv ad L).filter (fun q => !(q.1 == i) && (!(q.1 == i + 1) && !(q.1 + 1 == i && q.2.category == 2))) := by
  rintro ⟨j, w⟩ hq
  obtain ⟨v, hv, hw⟩ := bz_lv_mem.mp hq
  dsimp only at hv hw
  subst hw
  by_cases hj1 : j = i + 1
  · subst hj1
    rw [List.getElem?_set_self (by simp [bz_kl_len]; exact hi)] at hv
    cases hv
  · rw [List.getElem?_set_ne (Ne.symm hj1)] at hv
    by_cases hj : j = i
    · subst hj
      rw [List.getElem?_set_self (by rw [bz_kl_len]; omega)] at hv
      cases hv
      exact List.mem_cons_self
    · rw [List.getElem?_set_ne (Ne.symm hj)] at hv
      obtain ⟨h1, h2⟩ := bz_kl_mem hv
      refine List.mem_cons_of_mem _ (List.mem_filter.mpr ⟨bz_lv_mem.mpr ⟨v, h1, rfl⟩, ?_⟩)
      have h3 : ¬ (j + 1 = i ∧ (bz_cz ad v).category = 2) := by rw [bz_cz_cat]; exact h2
      simp only [Bool.and_eq_true, Bool.not_eq_true', beq_eq_false_iff_ne, ne_eq, Bool.and_eq_false_iff]
      refine ⟨hj, hj1, ?_⟩
      by_cases h4 : j + 1 = i
      · exact Or.inr (fun z => h3 ⟨h4, z⟩)
      · exact Or.inl h4
theorem bz_o_iconst {n : Int} {v : Int32} (hd : decode bytes pc = .ok (.iconst n, 1)) (hv : Int32.ofInt n = v) : bz_ok own bytes pc (bz_push (.int v) 1) := by
  intro X p l e R s m args below meth c Qf A ad ca D cells slots nL F L st σ g b h hg kk hn H locs ls hP hD hS hl
  obtain ⟨hx, hb, hml, hown, hts, hnw, hK, hA, hZ, hT, hce, hsl⟩ := F
  simp only [bz_push, Option.some.injEq, Prod.mk.injEq] at h
  obtain ⟨rfl, rfl⟩ := h
  exact lv_iconst hx hb hd hv (kk hn H locs ls hP hD hS hl)
theorem bz_o_bipush {n : Int} {v : Int32} (hd : decode bytes pc = .ok (.bipush n, 2)) (hv : (Int8.ofInt n).toInt32 = v) : bz_ok own bytes pc (bz_push (.int v) 2) := by
  intro X p l e R s m args below meth c Qf A ad ca D cells slots nL F L st σ g b h hg kk hn H locs ls hP hD hS hl
  obtain ⟨hx, hb, hml, hown, hts, hnw, hK, hA, hZ, hT, hce, hsl⟩ := F
  simp only [bz_push, Option.some.injEq, Prod.mk.injEq] at h
  obtain ⟨rfl, rfl⟩ := h
  exact lv_bipush hx hb hd hv (kk hn H locs ls hP hD hS hl)
theorem bz_o_sipush {n : Int} {v : Int32} (hd : decode bytes pc = .ok (.sipush n, 3)) (hv : (Int16.ofInt n).toInt32 = v) : bz_ok own bytes pc (bz_push (.int v) 3) := by
  intro X p l e R s m args below meth c Qf A ad ca D cells slots nL F L st σ g b h hg kk hn H locs ls hP hD hS hl
  obtain ⟨hx, hb, hml, hown, hts, hnw, hK, hA, hZ, hT, hce, hsl⟩ := F
  simp only [bz_push, Option.some.injEq, Prod.mk.injEq] at h
  obtain ⟨rfl, rfl⟩ := h
  exact lv_sipush hx hb hd hv (kk hn H locs ls hP hD hS hl)
theorem bz_o_lconst {n : Fin 2} {v : Int64} (hd : decode bytes pc = .ok (.lconst n, 1)) (hv : Int64.ofNat (n : Nat) = v) : bz_ok own bytes pc (bz_push (.long v) 1) := by
  intro X p l e R s m args below meth c Qf A ad ca D cells slots nL F L st σ g b h hg kk hn H locs ls hP hD hS hl
  obtain ⟨hx, hb, hml, hown, hts, hnw, hK, hA, hZ, hT, hce, hsl⟩ := F
  simp only [bz_push, Option.some.injEq, Prod.mk.injEq] at h
  obtain ⟨rfl, rfl⟩ := h
  exact lv_lconst hx hb hd hv (kk hn H locs ls hP hD hS hl)
theorem bz_o_ldc {i : Nat} {v : Int32} (hd : decode bytes pc = .ok (.ldc i, 2)) (hw : Cond.constant own i v ∈ bz_TB) : bz_ok own bytes pc (bz_push (.int v) 2) := by
  intro X p l e R s m args below meth c Qf A ad ca D cells slots nL F L st σ g b h hg kk hn H locs ls hP hD hS hl
  obtain ⟨hx, hb, hml, hown, hts, hnw, hK, hA, hZ, hT, hce, hsl⟩ := F
  simp only [bz_push, Option.some.injEq, Prod.mk.injEq] at h
  obtain ⟨rfl, rfl⟩ := h
  exact lv_ldc hx hb hown (hts _ hw) hd (kk hn H locs ls hP hD hS hl)
theorem bz_o_ldc2 {i : Nat} {v : Int64} (hd : decode bytes pc = .ok (.ldc2_w i, 3)) (hw : Cond.constantLong own i v ∈ bz_TB) : bz_ok own bytes pc (bz_push (.long v) 3) := by
  intro X p l e R s m args below meth c Qf A ad ca D cells slots nL F L st σ g b h hg kk hn H locs ls hP hD hS hl
  obtain ⟨hx, hb, hml, hown, hts, hnw, hK, hA, hZ, hT, hce, hsl⟩ := F
  simp only [bz_push, Option.some.injEq, Prod.mk.injEq] at h
  obtain ⟨rfl, rfl⟩ := h
  exact lv_ldc2 hx hb hown (hts _ hw) hd (kk hn H locs ls hP hD hS hl)
theorem bz_o_iload_n {k : Fin 4} {i : Nat} (hd : decode bytes pc = .ok (.iload_n k, 1)) (hi : (k : Nat) = i) : bz_ok own bytes pc (bz_iload i 1) := by
  intro X p l e R s m args below meth c Qf A ad ca D cells slots nL F L st σ g b h hg kk hn H locs ls hP hD hS hl
  obtain ⟨hx, hb, hml, hown, hts, hnw, hK, hA, hZ, hT, hce, hsl⟩ := F
  simp only [bz_iload] at h
  split at h
  · rename_i x hx1
    simp only [Option.some.injEq, Prod.mk.injEq] at h
    obtain ⟨rfl, rfl⟩ := h
    exact lv_iload_n hx hb hd hi (bz_lv_at hl hx1) (kk hn H locs ls hP hD hS hl)
  · cases h
theorem bz_o_iload {i : Nat} (hd : decode bytes pc = .ok (.iload i, 2)) : bz_ok own bytes pc (bz_iload i 2) := by
  intro X p l e R s m args below meth c Qf A ad ca D cells slots nL F L st σ g b h hg kk hn H locs ls hP hD hS hl
  obtain ⟨hx, hb, hml, hown, hts, hnw, hK, hA, hZ, hT, hce, hsl⟩ := F
  simp only [bz_iload] at h
  split at h
  · rename_i x hx1
    simp only [Option.some.injEq, Prod.mk.injEq] at h
    obtain ⟨rfl, rfl⟩ := h
    exact lv_iload hx hb hd (bz_lv_at hl hx1) (kk hn H locs ls hP hD hS hl)
  · cases h
theorem bz_o_lload_n {k : Fin 4} {i : Nat} (hd : decode bytes pc = .ok (.lload_n k, 1)) (hi : (k : Nat) = i) : bz_ok own bytes pc (bz_lload i 1) := by
  intro X p l e R s m args below meth c Qf A ad ca D cells slots nL F L st σ g b h hg kk hn H locs ls hP hD hS hl
  obtain ⟨hx, hb, hml, hown, hts, hnw, hK, hA, hZ, hT, hce, hsl⟩ := F
  simp only [bz_lload] at h
  split at h
  · rename_i x hx1
    simp only [Option.some.injEq, Prod.mk.injEq] at h
    obtain ⟨rfl, rfl⟩ := h
    exact lv_lload_n hx hb hd hi (bz_lv_at hl hx1) (kk hn H locs ls hP hD hS hl)
  · cases h
theorem bz_o_lload {i : Nat} (hd : decode bytes pc = .ok (.lload i, 2)) : bz_ok own bytes pc (bz_lload i 2) := by
  intro X p l e R s m args below meth c Qf A ad ca D cells slots nL F L st σ g b h hg kk hn H locs ls hP hD hS hl
  obtain ⟨hx, hb, hml, hown, hts, hnw, hK, hA, hZ, hT, hce, hsl⟩ := F
  simp only [bz_lload] at h
  split at h
  · rename_i x hx1
    simp only [Option.some.injEq, Prod.mk.injEq] at h
    obtain ⟨rfl, rfl⟩ := h
    exact lv_lload hx hb hd (bz_lv_at hl hx1) (kk hn H locs ls hP hD hS hl)
  · cases h
theorem bz_o_aload_n {k : Fin 4} {i : Nat} (hd : decode bytes pc = .ok (.aload_n k, 1)) (hi : (k : Nat) = i) : bz_ok own bytes pc (bz_aload i 1) := by
  intro X p l e R s m args below meth c Qf A ad ca D cells slots nL F L st σ g b h hg kk hn H locs ls hP hD hS hl
  obtain ⟨hx, hb, hml, hown, hts, hnw, hK, hA, hZ, hT, hce, hsl⟩ := F
  simp only [bz_aload] at h
  split at h
  · rename_i x hx1
    simp only [Option.some.injEq, Prod.mk.injEq] at h
    obtain ⟨rfl, rfl⟩ := h
    exact lv_aload_n hx hb hd hi (bz_lv_at hl hx1) (kk hn H locs ls hP hD hS hl)
  · cases h
theorem bz_o_aload {i : Nat} (hd : decode bytes pc = .ok (.aload i, 2)) : bz_ok own bytes pc (bz_aload i 2) := by
  intro X p l e R s m args below meth c Qf A ad ca D cells slots nL F L st σ g b h hg kk hn H locs ls hP hD hS hl
  obtain ⟨hx, hb, hml, hown, hts, hnw, hK, hA, hZ, hT, hce, hsl⟩ := F
  simp only [bz_aload] at h
  split at h
  · rename_i x hx1
    simp only [Option.some.injEq, Prod.mk.injEq] at h
    obtain ⟨rfl, rfl⟩ := h
    exact lv_aload hx hb hd (bz_lv_at hl hx1) (kk hn H locs ls hP hD hS hl)
  · cases h
theorem bz_o_istore_n {k : Fin 4} {i : Nat} (hd : decode bytes pc = .ok (.istore_n k, 1)) (hi : (k : Nat) = i) : bz_ok own bytes pc (bz_istore i 1) := by
  intro X p l e R s m args below meth c Qf A ad ca D cells slots nL F L st σ g b h hg kk hn H locs ls hP hD hS hl
  obtain ⟨hx, hb, hml, hown, hts, hnw, hK, hA, hZ, hT, hce, hsl⟩ := F
  simp only [bz_istore] at h
  split at h
  · rename_i x r
    cases hlt : Nat.blt i L.length with
    | false => rw [hlt] at h; cases h
    | true =>
      rw [hlt] at h
      simp only [cond_true, Option.some.injEq, Prod.mk.injEq] at h
      obtain ⟨rfl, rfl⟩ := h
      have hi2 : i < L.length := Nat.le_of_ble_eq_true hlt
      refine lv_istore_n hx hb hd hi hl (hn ▸ hi2) rfl (fun ls' hl' => ?_)
      refine (kk ((by simp [bz_kl_len] : _ = L.length).trans hn) H locs ls' hP hD hS (bz_lv_mono hl' ?_))
      exact bz_st1_mem hi2
  · cases h
theorem bz_o_istore {i : Nat} (hd : decode bytes pc = .ok (.istore i, 2)) : bz_ok own bytes pc (bz_istore i 2) := by
  intro X p l e R s m args below meth c Qf A ad ca D cells slots nL F L st σ g b h hg kk hn H locs ls hP hD hS hl
  obtain ⟨hx, hb, hml, hown, hts, hnw, hK, hA, hZ, hT, hce, hsl⟩ := F
  simp only [bz_istore] at h
  split at h
  · rename_i x r
    cases hlt : Nat.blt i L.length with
    | false => rw [hlt] at h; cases h
    | true =>
      rw [hlt] at h
      simp only [cond_true, Option.some.injEq, Prod.mk.injEq] at h
      obtain ⟨rfl, rfl⟩ := h
      have hi2 : i < L.length := Nat.le_of_ble_eq_true hlt
      refine lv_istore hx hb hd hl (hn ▸ hi2) rfl (fun ls' hl' => ?_)
      refine (kk ((by simp [bz_kl_len] : _ = L.length).trans hn) H locs ls' hP hD hS (bz_lv_mono hl' ?_))
      exact bz_st1_mem hi2
  · cases h
theorem bz_o_lstore_n {k : Fin 4} {i : Nat} (hd : decode bytes pc = .ok (.lstore_n k, 1)) (hi : (k : Nat) = i) : bz_ok own bytes pc (bz_lstore i 1) := by
  intro X p l e R s m args below meth c Qf A ad ca D cells slots nL F L st σ g b h hg kk hn H locs ls hP hD hS hl
  obtain ⟨hx, hb, hml, hown, hts, hnw, hK, hA, hZ, hT, hce, hsl⟩ := F
  simp only [bz_lstore] at h
  split at h
  · rename_i x r
    cases hlt : Nat.blt (i + 1) L.length with
    | false => rw [hlt] at h; cases h
    | true =>
      rw [hlt] at h
      simp only [cond_true, Option.some.injEq, Prod.mk.injEq] at h
      obtain ⟨rfl, rfl⟩ := h
      have hi2 : i + 1 < L.length := Nat.le_of_ble_eq_true hlt
      refine lv_lstore_n hx hb hd hi hl (hn ▸ hi2) rfl (fun ls' hl' => ?_)
      refine (kk ((by simp [bz_kl_len] : _ = L.length).trans hn) H locs ls' hP hD hS (bz_lv_mono hl' ?_))
      exact bz_st2_mem hi2
  · cases h
theorem bz_o_lstore {i : Nat} (hd : decode bytes pc = .ok (.lstore i, 2)) : bz_ok own bytes pc (bz_lstore i 2) := by
  intro X p l e R s m args below meth c Qf A ad ca D cells slots nL F L st σ g b h hg kk hn H locs ls hP hD hS hl
  obtain ⟨hx, hb, hml, hown, hts, hnw, hK, hA, hZ, hT, hce, hsl⟩ := F
  simp only [bz_lstore] at h
  split at h
  · rename_i x r
    cases hlt : Nat.blt (i + 1) L.length with
    | false => rw [hlt] at h; cases h
    | true =>
      rw [hlt] at h
      simp only [cond_true, Option.some.injEq, Prod.mk.injEq] at h
      obtain ⟨rfl, rfl⟩ := h
      have hi2 : i + 1 < L.length := Nat.le_of_ble_eq_true hlt
      refine lv_lstore hx hb hd hl (hn ▸ hi2) rfl (fun ls' hl' => ?_)
      refine (kk ((by simp [bz_kl_len] : _ = L.length).trans hn) H locs ls' hP hD hS (bz_lv_mono hl' ?_))
      exact bz_st2_mem hi2
  · cases h
theorem bz_o_iinc {i : Nat} {n : Int} {v : Int32} (hd : decode bytes pc = .ok (.iinc i n, 3)) (hv : Int32.ofInt n = v) : bz_ok own bytes pc (bz_iinc i v) := by
  intro X p l e R s m args below meth c Qf A ad ca D cells slots nL F L st σ g b h hg kk hn H locs ls hP hD hS hl
  obtain ⟨hx, hb, hml, hown, hts, hnw, hK, hA, hZ, hT, hce, hsl⟩ := F
  subst hv
  simp only [bz_iinc] at h
  split at h
  · rename_i x hx1
    simp only [Option.some.injEq, Prod.mk.injEq] at h
    obtain ⟨rfl, rfl⟩ := h
    have hi2 : i < L.length := (List.getElem?_eq_some_iff.mp hx1).1
    have hm : (i, Value.int x) ∈ bz_lv ad L := bz_lv_mem.mpr ⟨.int x, hx1, rfl⟩
    obtain ⟨k, hk⟩ := List.getElem?_of_mem hm
    refine lv_iinc hx hb hd hl hk rfl (hn ▸ hi2) rfl (fun ls' hl' => ?_)
    refine kk ((by simp [bz_kl_len] : _ = L.length).trans hn) H locs ls' hP hD hS (bz_lv_mono hl' ?_)
    exact bz_st1_mem hi2
  · cases h
theorem bz_o_iadd (hd : decode bytes pc = .ok (.iadd, 1)) : bz_ok own bytes pc (bz_ii (fun x y => x + y)) := by
  intro X p l e R s m args below meth c Qf A ad ca D cells slots nL F L st σ g b h hg kk hn H locs ls hP hD hS hl
  obtain ⟨hx, hb, hml, hown, hts, hnw, hK, hA, hZ, hT, hce, hsl⟩ := F
  simp only [bz_ii] at h
  split at h
  · rename_i y x r
    simp only [Option.some.injEq, Prod.mk.injEq] at h
    obtain ⟨rfl, rfl⟩ := h
    exact lv_iadd hx hb hd (kk hn H locs ls hP hD hS hl)
  · cases h
theorem bz_o_isub (hd : decode bytes pc = .ok (.isub, 1)) : bz_ok own bytes pc (bz_ii (fun x y => x - y)) := by
  intro X p l e R s m args below meth c Qf A ad ca D cells slots nL F L st σ g b h hg kk hn H locs ls hP hD hS hl
  obtain ⟨hx, hb, hml, hown, hts, hnw, hK, hA, hZ, hT, hce, hsl⟩ := F
  simp only [bz_ii] at h
  split at h
  · rename_i y x r
    simp only [Option.some.injEq, Prod.mk.injEq] at h
    obtain ⟨rfl, rfl⟩ := h
    exact lv_isub hx hb hd (kk hn H locs ls hP hD hS hl)
  · cases h
theorem bz_o_imul (hd : decode bytes pc = .ok (.imul, 1)) : bz_ok own bytes pc (bz_ii (fun x y => x * y)) := by
  intro X p l e R s m args below meth c Qf A ad ca D cells slots nL F L st σ g b h hg kk hn H locs ls hP hD hS hl
  obtain ⟨hx, hb, hml, hown, hts, hnw, hK, hA, hZ, hT, hce, hsl⟩ := F
  simp only [bz_ii] at h
  split at h
  · rename_i y x r
    simp only [Option.some.injEq, Prod.mk.injEq] at h
    obtain ⟨rfl, rfl⟩ := h
    exact lv_imul hx hb hd (kk hn H locs ls hP hD hS hl)
  · cases h
theorem bz_o_iand (hd : decode bytes pc = .ok (.iand, 1)) : bz_ok own bytes pc (bz_ii (fun x y => x &&& y)) := by
  intro X p l e R s m args below meth c Qf A ad ca D cells slots nL F L st σ g b h hg kk hn H locs ls hP hD hS hl
  obtain ⟨hx, hb, hml, hown, hts, hnw, hK, hA, hZ, hT, hce, hsl⟩ := F
  simp only [bz_ii] at h
  split at h
  · rename_i y x r
    simp only [Option.some.injEq, Prod.mk.injEq] at h
    obtain ⟨rfl, rfl⟩ := h
    exact lv_iand hx hb hd (kk hn H locs ls hP hD hS hl)
  · cases h
theorem bz_o_ixor (hd : decode bytes pc = .ok (.ixor, 1)) : bz_ok own bytes pc (bz_ii (fun x y => x ^^^ y)) := by
  intro X p l e R s m args below meth c Qf A ad ca D cells slots nL F L st σ g b h hg kk hn H locs ls hP hD hS hl
  obtain ⟨hx, hb, hml, hown, hts, hnw, hK, hA, hZ, hT, hce, hsl⟩ := F
  simp only [bz_ii] at h
  split at h
  · rename_i y x r
    simp only [Option.some.injEq, Prod.mk.injEq] at h
    obtain ⟨rfl, rfl⟩ := h
    exact lv_ixor hx hb hd (kk hn H locs ls hP hD hS hl)
  · cases h
theorem bz_o_ladd (hd : decode bytes pc = .ok (.ladd, 1)) : bz_ok own bytes pc (bz_ll (fun x y => x + y)) := by
  intro X p l e R s m args below meth c Qf A ad ca D cells slots nL F L st σ g b h hg kk hn H locs ls hP hD hS hl
  obtain ⟨hx, hb, hml, hown, hts, hnw, hK, hA, hZ, hT, hce, hsl⟩ := F
  simp only [bz_ll] at h
  split at h
  · rename_i y x r
    simp only [Option.some.injEq, Prod.mk.injEq] at h
    obtain ⟨rfl, rfl⟩ := h
    exact lv_ladd hx hb hd (kk hn H locs ls hP hD hS hl)
  · cases h
theorem bz_o_lsub (hd : decode bytes pc = .ok (.lsub, 1)) : bz_ok own bytes pc (bz_ll (fun x y => x - y)) := by
  intro X p l e R s m args below meth c Qf A ad ca D cells slots nL F L st σ g b h hg kk hn H locs ls hP hD hS hl
  obtain ⟨hx, hb, hml, hown, hts, hnw, hK, hA, hZ, hT, hce, hsl⟩ := F
  simp only [bz_ll] at h
  split at h
  · rename_i y x r
    simp only [Option.some.injEq, Prod.mk.injEq] at h
    obtain ⟨rfl, rfl⟩ := h
    exact lv_lsub hx hb hd (kk hn H locs ls hP hD hS hl)
  · cases h
theorem bz_o_lmul (hd : decode bytes pc = .ok (.lmul, 1)) : bz_ok own bytes pc (bz_ll (fun x y => x * y)) := by
  intro X p l e R s m args below meth c Qf A ad ca D cells slots nL F L st σ g b h hg kk hn H locs ls hP hD hS hl
  obtain ⟨hx, hb, hml, hown, hts, hnw, hK, hA, hZ, hT, hce, hsl⟩ := F
  simp only [bz_ll] at h
  split at h
  · rename_i y x r
    simp only [Option.some.injEq, Prod.mk.injEq] at h
    obtain ⟨rfl, rfl⟩ := h
    exact lv_lmul hx hb hd (kk hn H locs ls hP hD hS hl)
  · cases h
theorem bz_o_land (hd : decode bytes pc = .ok (.land, 1)) : bz_ok own bytes pc (bz_ll (fun x y => x &&& y)) := by
  intro X p l e R s m args below meth c Qf A ad ca D cells slots nL F L st σ g b h hg kk hn H locs ls hP hD hS hl
  obtain ⟨hx, hb, hml, hown, hts, hnw, hK, hA, hZ, hT, hce, hsl⟩ := F
  simp only [bz_ll] at h
  split at h
  · rename_i y x r
    simp only [Option.some.injEq, Prod.mk.injEq] at h
    obtain ⟨rfl, rfl⟩ := h
    exact lv_land hx hb hd (kk hn H locs ls hP hD hS hl)
  · cases h
theorem bz_o_lor (hd : decode bytes pc = .ok (.lor, 1)) : bz_ok own bytes pc (bz_ll (fun x y => x ||| y)) := by
  intro X p l e R s m args below meth c Qf A ad ca D cells slots nL F L st σ g b h hg kk hn H locs ls hP hD hS hl
  obtain ⟨hx, hb, hml, hown, hts, hnw, hK, hA, hZ, hT, hce, hsl⟩ := F
  simp only [bz_ll] at h
  split at h
  · rename_i y x r
    simp only [Option.some.injEq, Prod.mk.injEq] at h
    obtain ⟨rfl, rfl⟩ := h
    exact lv_lor hx hb hd (kk hn H locs ls hP hD hS hl)
  · cases h
theorem bz_o_idiv (hd : decode bytes pc = .ok (.idiv, 1)) : bz_ok own bytes pc (bz_ig (fun x y => x / y)) := by
  intro X p l e R s m args below meth c Qf A ad ca D cells slots nL F L st σ g b h hg kk hn H locs ls hP hD hS hl
  obtain ⟨hx, hb, hml, hown, hts, hnw, hK, hA, hZ, hT, hce, hsl⟩ := F
  simp only [bz_ig] at h
  split at h
  · rename_i y x r
    simp only [Option.some.injEq, Prod.mk.injEq] at h
    obtain ⟨rfl, rfl⟩ := h
    exact lv_idiv hx hb hd hg.1 (kk hn H locs ls hP hD hS hl)
  · cases h
theorem bz_o_ldiv (hd : decode bytes pc = .ok (.ldiv, 1)) : bz_ok own bytes pc (bz_lg (fun x y => x / y)) := by
  intro X p l e R s m args below meth c Qf A ad ca D cells slots nL F L st σ g b h hg kk hn H locs ls hP hD hS hl
  obtain ⟨hx, hb, hml, hown, hts, hnw, hK, hA, hZ, hT, hce, hsl⟩ := F
  simp only [bz_lg] at h
  split at h
  · rename_i y x r
    simp only [Option.some.injEq, Prod.mk.injEq] at h
    obtain ⟨rfl, rfl⟩ := h
    exact lv_ldiv hx hb hd hg.1 (kk hn H locs ls hP hD hS hl)
  · cases h
theorem bz_o_irem (hd : decode bytes pc = .ok (.irem, 1)) : bz_ok own bytes pc (bz_ig (fun x y => x % y)) := by
  intro X p l e R s m args below meth c Qf A ad ca D cells slots nL F L st σ g b h hg kk hn H locs ls hP hD hS hl
  obtain ⟨hx, hb, hml, hown, hts, hnw, hK, hA, hZ, hT, hce, hsl⟩ := F
  simp only [bz_ig] at h
  split at h
  · rename_i y x r
    simp only [Option.some.injEq, Prod.mk.injEq] at h
    obtain ⟨rfl, rfl⟩ := h
    have k := (kk hn H locs ls hP hD hS hl)
    refine lv_irem hx hb hd hg.1 ?_
    rw [irem_eq_mod]
    exact k
  · cases h
theorem bz_o_lrem (hd : decode bytes pc = .ok (.lrem, 1)) : bz_ok own bytes pc (bz_lg (fun x y => x % y)) := by
  intro X p l e R s m args below meth c Qf A ad ca D cells slots nL F L st σ g b h hg kk hn H locs ls hP hD hS hl
  obtain ⟨hx, hb, hml, hown, hts, hnw, hK, hA, hZ, hT, hce, hsl⟩ := F
  simp only [bz_lg] at h
  split at h
  · rename_i y x r
    simp only [Option.some.injEq, Prod.mk.injEq] at h
    obtain ⟨rfl, rfl⟩ := h
    have k := (kk hn H locs ls hP hD hS hl)
    refine lv_lrem hx hb hd hg.1 ?_
    rw [bz_lrem_eq]
    exact k
  · cases h
theorem bz_o_lushr (hd : decode bytes pc = .ok (.lushr, 1)) : bz_ok own bytes pc (bz_li (fun x y => (x.toUInt64 >>> (y.toInt64.toUInt64 &&& Int64.toUInt64 63)).toInt64)) := by
  intro X p l e R s m args below meth c Qf A ad ca D cells slots nL F L st σ g b h hg kk hn H locs ls hP hD hS hl
  obtain ⟨hx, hb, hml, hown, hts, hnw, hK, hA, hZ, hT, hce, hsl⟩ := F
  simp only [bz_li] at h
  split at h
  · rename_i y x r
    simp only [Option.some.injEq, Prod.mk.injEq] at h
    obtain ⟨rfl, rfl⟩ := h
    exact lv_lushr hx hb hd rfl (kk hn H locs ls hP hD hS hl)
  · cases h
theorem bz_o_lshl (hd : decode bytes pc = .ok (.lshl, 1)) : bz_ok own bytes pc (bz_li (fun x y => x <<< (y.toInt64 &&& 63))) := by
  intro X p l e R s m args below meth c Qf A ad ca D cells slots nL F L st σ g b h hg kk hn H locs ls hP hD hS hl
  obtain ⟨hx, hb, hml, hown, hts, hnw, hK, hA, hZ, hT, hce, hsl⟩ := F
  simp only [bz_li] at h
  split at h
  · rename_i y x r
    simp only [Option.some.injEq, Prod.mk.injEq] at h
    obtain ⟨rfl, rfl⟩ := h
    exact lv_lshl hx hb hd rfl (kk hn H locs ls hP hD hS hl)
  · cases h
theorem bz_o_i2l (hd : decode bytes pc = .ok (.i2l, 1)) : bz_ok own bytes pc (bz_i2l) := by
  intro X p l e R s m args below meth c Qf A ad ca D cells slots nL F L st σ g b h hg kk hn H locs ls hP hD hS hl
  obtain ⟨hx, hb, hml, hown, hts, hnw, hK, hA, hZ, hT, hce, hsl⟩ := F
  simp only [bz_i2l] at h
  split at h
  · rename_i x r
    simp only [Option.some.injEq, Prod.mk.injEq] at h
    obtain ⟨rfl, rfl⟩ := h
    exact lv_i2l hx hb hd rfl (kk hn H locs ls hP hD hS hl)
  · cases h
theorem bz_o_l2i (hd : decode bytes pc = .ok (.l2i, 1)) : bz_ok own bytes pc (bz_l2i) := by
  intro X p l e R s m args below meth c Qf A ad ca D cells slots nL F L st σ g b h hg kk hn H locs ls hP hD hS hl
  obtain ⟨hx, hb, hml, hown, hts, hnw, hK, hA, hZ, hT, hce, hsl⟩ := F
  simp only [bz_l2i] at h
  split at h
  · rename_i x r
    simp only [Option.some.injEq, Prod.mk.injEq] at h
    obtain ⟨rfl, rfl⟩ := h
    exact lv_l2i hx hb hd rfl (kk hn H locs ls hP hD hS hl)
  · cases h
theorem bz_o_lcmp (hd : decode bytes pc = .ok (.lcmp, 1)) : bz_ok own bytes pc (bz_lcmp) := by
  intro X p l e R s m args below meth c Qf A ad ca D cells slots nL F L st σ g b h hg kk hn H locs ls hP hD hS hl
  obtain ⟨hx, hb, hml, hown, hts, hnw, hK, hA, hZ, hT, hce, hsl⟩ := F
  simp only [bz_lcmp] at h
  split at h
  · rename_i y x r
    simp only [Option.some.injEq, Prod.mk.injEq] at h
    obtain ⟨rfl, rfl⟩ := h
    exact W.lcmp hx hb hd (kk hn H locs ls hP hD hS hl)
  · cases h
theorem bz_o_dup (hd : decode bytes pc = .ok (.dup, 1)) : bz_ok own bytes pc (bz_dup) := by
  intro X p l e R s m args below meth c Qf A ad ca D cells slots nL F L st σ g b h hg kk hn H locs ls hP hD hS hl
  obtain ⟨hx, hb, hml, hown, hts, hnw, hK, hA, hZ, hT, hce, hsl⟩ := F
  simp only [bz_dup] at h
  split at h
  · rename_i x r
    simp only [Option.some.injEq, Prod.mk.injEq] at h
    obtain ⟨rfl, rfl⟩ := h
    exact lv_dup hx hb hd rfl (kk hn H locs ls hP hD hS hl)
  · rename_i x r
    simp only [Option.some.injEq, Prod.mk.injEq] at h
    obtain ⟨rfl, rfl⟩ := h
    exact lv_dup hx hb hd rfl (kk hn H locs ls hP hD hS hl)
  · cases h
theorem bz_o_pop (hd : decode bytes pc = .ok (.pop, 1)) : bz_ok own bytes pc (bz_pop1) := by
  intro X p l e R s m args below meth c Qf A ad ca D cells slots nL F L st σ g b h hg kk hn H locs ls hP hD hS hl
  obtain ⟨hx, hb, hml, hown, hts, hnw, hK, hA, hZ, hT, hce, hsl⟩ := F
  simp only [bz_pop1] at h
  split at h
  · rename_i x r
    simp only [Option.some.injEq, Prod.mk.injEq] at h
    obtain ⟨rfl, rfl⟩ := h
    exact lv_pop hx hb hd rfl (kk hn H locs ls hP hD hS hl)
  · cases h
theorem bz_o_dup2 (hd : decode bytes pc = .ok (.dup2, 1)) : bz_ok own bytes pc (bz_dup2) := by
  intro X p l e R s m args below meth c Qf A ad ca D cells slots nL F L st σ g b h hg kk hn H locs ls hP hD hS hl
  obtain ⟨hx, hb, hml, hown, hts, hnw, hK, hA, hZ, hT, hce, hsl⟩ := F
  simp only [bz_dup2] at h
  split at h
  · rename_i x y r
    simp only [Option.some.injEq, Prod.mk.injEq] at h
    obtain ⟨rfl, rfl⟩ := h
    exact lv_dup2_11 hx hb hd rfl rfl (kk hn H locs ls hP hD hS hl)
  · cases h
theorem bz_o_goto {off : Int} {t : Nat} (hd : decode bytes pc = .ok (.goto off, 3)) (ht : (pc : Int) + off = (t : Int)) : bz_ok own bytes pc (bz_goto t) := by
  intro X p l e R s m args below meth c Qf A ad ca D cells slots nL F L st σ g b h hg kk hn H locs ls hP hD hS hl
  obtain ⟨hx, hb, hml, hown, hts, hnw, hK, hA, hZ, hT, hce, hsl⟩ := F
  simp only [bz_goto, Option.some.injEq, Prod.mk.injEq] at h
  obtain ⟨rfl, rfl⟩ := h
  exact lv_goto hx hb hd ht (kk hn H locs ls hP hD hS hl)
def bz_if_eq (t : Nat) : bz_Op := bz_ifi (fun x => x = 0) (fun x => inferInstanceAs (Decidable (x = 0))) t
def bz_ic_eq (t : Nat) : bz_Op := bz_icm (fun x y => x = y) (fun x y => inferInstanceAs (Decidable (x = y))) t
theorem bz_o_if_eq {off : Int} {t : Nat} (hd : decode bytes pc = .ok (.ifCond .eq off, 3)) (ht : (pc : Int) + off = (t : Int)) : bz_ok own bytes pc (bz_if_eq t) := by
  intro X p l e R s m args below meth c Qf A ad ca D cells slots nL F L st σ g b h hg kk hn H locs ls hP hD hS hl
  obtain ⟨hx, hb, hml, hown, hts, hnw, hK, hA, hZ, hT, hce, hsl⟩ := F
  unfold bz_if_eq at h
  simp only [bz_ifi] at h
  split at h
  · rename_i x r
    simp only [Option.some.injEq, Prod.mk.injEq] at h
    obtain ⟨rfl, rfl⟩ := h
    refine lv_if_eq hx hb hd ht (fun hc => ?_) (fun hc => ?_)
    · rw [if_pos hc] at kk
      exact (kk hn H locs ls hP hD hS hl)
    · rw [if_neg hc] at kk
      exact (kk hn H locs ls hP hD hS hl)
  · cases h
theorem bz_o_ic_eq {off : Int} {t : Nat} (hd : decode bytes pc = .ok (.if_icmp .eq off, 3)) (ht : (pc : Int) + off = (t : Int)) : bz_ok own bytes pc (bz_ic_eq t) := by
  intro X p l e R s m args below meth c Qf A ad ca D cells slots nL F L st σ g b h hg kk hn H locs ls hP hD hS hl
  obtain ⟨hx, hb, hml, hown, hts, hnw, hK, hA, hZ, hT, hce, hsl⟩ := F
  unfold bz_ic_eq at h
  simp only [bz_icm] at h
  split at h
  · rename_i y x r
    simp only [Option.some.injEq, Prod.mk.injEq] at h
    obtain ⟨rfl, rfl⟩ := h
    refine lv_icmp_eq hx hb hd ht (fun hc => ?_) (fun hc => ?_)
    · rw [if_pos hc] at kk
      exact (kk hn H locs ls hP hD hS hl)
    · rw [if_neg hc] at kk
      exact (kk hn H locs ls hP hD hS hl)
  · cases h
def bz_if_ne (t : Nat) : bz_Op := bz_ifi (fun x => ¬ x = 0) (fun x => inferInstanceAs (Decidable (¬ x = 0))) t
def bz_ic_ne (t : Nat) : bz_Op := bz_icm (fun x y => ¬ x = y) (fun x y => inferInstanceAs (Decidable (¬ x = y))) t
theorem bz_o_if_ne {off : Int} {t : Nat} (hd : decode bytes pc = .ok (.ifCond .ne off, 3)) (ht : (pc : Int) + off = (t : Int)) : bz_ok own bytes pc (bz_if_ne t) := by
  intro X p l e R s m args below meth c Qf A ad ca D cells slots nL F L st σ g b h hg kk hn H locs ls hP hD hS hl
  obtain ⟨hx, hb, hml, hown, hts, hnw, hK, hA, hZ, hT, hce, hsl⟩ := F
  unfold bz_if_ne at h
  simp only [bz_ifi] at h
  split at h
  · rename_i x r
    simp only [Option.some.injEq, Prod.mk.injEq] at h
    obtain ⟨rfl, rfl⟩ := h
    refine lv_if_ne hx hb hd ht (fun hc => ?_) (fun hc => ?_)
    · rw [if_pos hc] at kk
      exact (kk hn H locs ls hP hD hS hl)
    · rw [if_neg (fun z => z hc)] at kk
      exact (kk hn H locs ls hP hD hS hl)
  · cases h
theorem bz_o_ic_ne {off : Int} {t : Nat} (hd : decode bytes pc = .ok (.if_icmp .ne off, 3)) (ht : (pc : Int) + off = (t : Int)) : bz_ok own bytes pc (bz_ic_ne t) := by
  intro X p l e R s m args below meth c Qf A ad ca D cells slots nL F L st σ g b h hg kk hn H locs ls hP hD hS hl
  obtain ⟨hx, hb, hml, hown, hts, hnw, hK, hA, hZ, hT, hce, hsl⟩ := F
  unfold bz_ic_ne at h
  simp only [bz_icm] at h
  split at h
  · rename_i y x r
    simp only [Option.some.injEq, Prod.mk.injEq] at h
    obtain ⟨rfl, rfl⟩ := h
    refine lv_icmp_ne hx hb hd ht (fun hc => ?_) (fun hc => ?_)
    · rw [if_pos hc] at kk
      exact (kk hn H locs ls hP hD hS hl)
    · rw [if_neg (fun z => z hc)] at kk
      exact (kk hn H locs ls hP hD hS hl)
  · cases h
def bz_if_lt (t : Nat) : bz_Op := bz_ifi (fun x => x < 0) (fun x => inferInstanceAs (Decidable (x < 0))) t
def bz_ic_lt (t : Nat) : bz_Op := bz_icm (fun x y => x < y) (fun x y => inferInstanceAs (Decidable (x < y))) t
theorem bz_o_if_lt {off : Int} {t : Nat} (hd : decode bytes pc = .ok (.ifCond .lt off, 3)) (ht : (pc : Int) + off = (t : Int)) : bz_ok own bytes pc (bz_if_lt t) := by
  intro X p l e R s m args below meth c Qf A ad ca D cells slots nL F L st σ g b h hg kk hn H locs ls hP hD hS hl
  obtain ⟨hx, hb, hml, hown, hts, hnw, hK, hA, hZ, hT, hce, hsl⟩ := F
  unfold bz_if_lt at h
  simp only [bz_ifi] at h
  split at h
  · rename_i x r
    simp only [Option.some.injEq, Prod.mk.injEq] at h
    obtain ⟨rfl, rfl⟩ := h
    refine lv_if_lt hx hb hd ht (fun hc => ?_) (fun hc => ?_)
    · rw [if_pos hc] at kk
      exact (kk hn H locs ls hP hD hS hl)
    · rw [if_neg hc] at kk
      exact (kk hn H locs ls hP hD hS hl)
  · cases h
theorem bz_o_ic_lt {off : Int} {t : Nat} (hd : decode bytes pc = .ok (.if_icmp .lt off, 3)) (ht : (pc : Int) + off = (t : Int)) : bz_ok own bytes pc (bz_ic_lt t) := by
  intro X p l e R s m args below meth c Qf A ad ca D cells slots nL F L st σ g b h hg kk hn H locs ls hP hD hS hl
  obtain ⟨hx, hb, hml, hown, hts, hnw, hK, hA, hZ, hT, hce, hsl⟩ := F
  unfold bz_ic_lt at h
  simp only [bz_icm] at h
  split at h
  · rename_i y x r
    simp only [Option.some.injEq, Prod.mk.injEq] at h
    obtain ⟨rfl, rfl⟩ := h
    refine lv_icmp_lt hx hb hd ht (fun hc => ?_) (fun hc => ?_)
    · rw [if_pos hc] at kk
      exact (kk hn H locs ls hP hD hS hl)
    · rw [if_neg hc] at kk
      exact (kk hn H locs ls hP hD hS hl)
  · cases h
def bz_if_ge (t : Nat) : bz_Op := bz_ifi (fun x => 0 ≤ x) (fun x => inferInstanceAs (Decidable (0 ≤ x))) t
def bz_ic_ge (t : Nat) : bz_Op := bz_icm (fun x y => y ≤ x) (fun x y => inferInstanceAs (Decidable (y ≤ x))) t
theorem bz_o_if_ge {off : Int} {t : Nat} (hd : decode bytes pc = .ok (.ifCond .ge off, 3)) (ht : (pc : Int) + off = (t : Int)) : bz_ok own bytes pc (bz_if_ge t) := by
  intro X p l e R s m args below meth c Qf A ad ca D cells slots nL F L st σ g b h hg kk hn H locs ls hP hD hS hl
  obtain ⟨hx, hb, hml, hown, hts, hnw, hK, hA, hZ, hT, hce, hsl⟩ := F
  unfold bz_if_ge at h
  simp only [bz_ifi] at h
  split at h
  · rename_i x r
    simp only [Option.some.injEq, Prod.mk.injEq] at h
    obtain ⟨rfl, rfl⟩ := h
    refine lv_if_ge hx hb hd ht (fun hc => ?_) (fun hc => ?_)
    · rw [if_pos hc] at kk
      exact (kk hn H locs ls hP hD hS hl)
    · rw [if_neg hc] at kk
      exact (kk hn H locs ls hP hD hS hl)
  · cases h
theorem bz_o_ic_ge {off : Int} {t : Nat} (hd : decode bytes pc = .ok (.if_icmp .ge off, 3)) (ht : (pc : Int) + off = (t : Int)) : bz_ok own bytes pc (bz_ic_ge t) := by
  intro X p l e R s m args below meth c Qf A ad ca D cells slots nL F L st σ g b h hg kk hn H locs ls hP hD hS hl
  obtain ⟨hx, hb, hml, hown, hts, hnw, hK, hA, hZ, hT, hce, hsl⟩ := F
  unfold bz_ic_ge at h
  simp only [bz_icm] at h
  split at h
  · rename_i y x r
    simp only [Option.some.injEq, Prod.mk.injEq] at h
    obtain ⟨rfl, rfl⟩ := h
    refine lv_icmp_ge hx hb hd ht (fun hc => ?_) (fun hc => ?_)
    · rw [if_pos hc] at kk
      exact (kk hn H locs ls hP hD hS hl)
    · rw [if_neg hc] at kk
      exact (kk hn H locs ls hP hD hS hl)
  · cases h
def bz_if_gt (t : Nat) : bz_Op := bz_ifi (fun x => 0 < x) (fun x => inferInstanceAs (Decidable (0 < x))) t
def bz_ic_gt (t : Nat) : bz_Op := bz_icm (fun x y => y < x) (fun x y => inferInstanceAs (Decidable (y < x))) t
theorem bz_o_if_gt {off : Int} {t : Nat} (hd : decode bytes pc = .ok (.ifCond .gt off, 3)) (ht : (pc : Int) + off = (t : Int)) : bz_ok own bytes pc (bz_if_gt t) := by
  intro X p l e R s m args below meth c Qf A ad ca D cells slots nL F L st σ g b h hg kk hn H locs ls hP hD hS hl
  obtain ⟨hx, hb, hml, hown, hts, hnw, hK, hA, hZ, hT, hce, hsl⟩ := F
  unfold bz_if_gt at h
  simp only [bz_ifi] at h
  split at h
  · rename_i x r
    simp only [Option.some.injEq, Prod.mk.injEq] at h
    obtain ⟨rfl, rfl⟩ := h
    refine lv_if_gt hx hb hd ht (fun hc => ?_) (fun hc => ?_)
    · rw [if_pos hc] at kk
      exact (kk hn H locs ls hP hD hS hl)
    · rw [if_neg hc] at kk
      exact (kk hn H locs ls hP hD hS hl)
  · cases h
theorem bz_o_ic_gt {off : Int} {t : Nat} (hd : decode bytes pc = .ok (.if_icmp .gt off, 3)) (ht : (pc : Int) + off = (t : Int)) : bz_ok own bytes pc (bz_ic_gt t) := by
  intro X p l e R s m args below meth c Qf A ad ca D cells slots nL F L st σ g b h hg kk hn H locs ls hP hD hS hl
  obtain ⟨hx, hb, hml, hown, hts, hnw, hK, hA, hZ, hT, hce, hsl⟩ := F
  unfold bz_ic_gt at h
  simp only [bz_icm] at h
  split at h
  · rename_i y x r
    simp only [Option.some.injEq, Prod.mk.injEq] at h
    obtain ⟨rfl, rfl⟩ := h
    refine lv_icmp_gt hx hb hd ht (fun hc => ?_) (fun hc => ?_)
    · rw [if_pos hc] at kk
      exact (kk hn H locs ls hP hD hS hl)
    · rw [if_neg hc] at kk
      exact (kk hn H locs ls hP hD hS hl)
  · cases h
def bz_if_le (t : Nat) : bz_Op := bz_ifi (fun x => x ≤ 0) (fun x => inferInstanceAs (Decidable (x ≤ 0))) t
def bz_ic_le (t : Nat) : bz_Op := bz_icm (fun x y => x ≤ y) (fun x y => inferInstanceAs (Decidable (x ≤ y))) t
theorem bz_o_if_le {off : Int} {t : Nat} (hd : decode bytes pc = .ok (.ifCond .le off, 3)) (ht : (pc : Int) + off = (t : Int)) : bz_ok own bytes pc (bz_if_le t) := by
  intro X p l e R s m args below meth c Qf A ad ca D cells slots nL F L st σ g b h hg kk hn H locs ls hP hD hS hl
  obtain ⟨hx, hb, hml, hown, hts, hnw, hK, hA, hZ, hT, hce, hsl⟩ := F
  unfold bz_if_le at h
  simp only [bz_ifi] at h
  split at h
  · rename_i x r
    simp only [Option.some.injEq, Prod.mk.injEq] at h
    obtain ⟨rfl, rfl⟩ := h
    refine lv_if_le hx hb hd ht (fun hc => ?_) (fun hc => ?_)
    · rw [if_pos hc] at kk
      exact (kk hn H locs ls hP hD hS hl)
    · rw [if_neg hc] at kk
      exact (kk hn H locs ls hP hD hS hl)
  · cases h
theorem bz_o_ic_le {off : Int} {t : Nat} (hd : decode bytes pc = .ok (.if_icmp .le off, 3)) (ht : (pc : Int) + off = (t : Int)) : bz_ok own bytes pc (bz_ic_le t) := by
  intro X p l e R s m args below meth c Qf A ad ca D cells slots nL F L st σ g b h hg kk hn H locs ls hP hD hS hl
  obtain ⟨hx, hb, hml, hown, hts, hnw, hK, hA, hZ, hT, hce, hsl⟩ := F
  unfold bz_ic_le at h
  simp only [bz_icm] at h
  split at h
  · rename_i y x r
    simp only [Option.some.injEq, Prod.mk.injEq] at h
    obtain ⟨rfl, rfl⟩ := h
    refine lv_icmp_le hx hb hd ht (fun hc => ?_) (fun hc => ?_)
    · rw [if_pos hc] at kk
      exact (kk hn H locs ls hP hD hS hl)
    · rw [if_neg hc] at kk
      exact (kk hn H locs ls hP hD hS hl)
  · cases h

def bz_mk : Int → List Nat → List (Int × Nat)
  | _, [] => []
  | lo, t :: r => (lo, t) :: bz_mk (lo + 1) r
theorem bz_sw_mk (d : Nat) (x : Int) : ∀ (ts : List Nat) (lo : Int), (x < lo ∨ lo + ts.length ≤ x → bz_sw x (bz_mk lo ts) d = d) ∧ (lo ≤ x → x < lo + ts.length → bz_sw x (bz_mk lo ts) d = ts.getD (x - lo).toNat 0) := by
  intro ts
  induction ts with
  | nil =>
    intro lo
    exact ⟨fun _ => rfl, fun h1 h2 => by simp at h2; omega⟩
  | cons t r ih =>
    intro lo
    obtain ⟨i1, i2⟩ := ih (lo + 1)
    refine ⟨fun h => ?_, fun h1 h2 => ?_⟩
    · simp only [List.length_cons] at h
      have hne : ¬ x = lo := by omega
      simp only [bz_mk, bz_sw, if_neg hne]
      exact i1 (by omega)
    · simp only [List.length_cons] at h2
      by_cases hx : x = lo
      · subst hx
        simp [bz_mk, bz_sw]
      · simp only [bz_mk, bz_sw, if_neg hx]
        rw [i2 (by omega) (by omega)]
        have : (x - lo).toNat = (x - (lo + 1)).toNat + 1 := by omega
        rw [this]
        simp
theorem bz_sw_lk (pc : Nat) (df : Int) (d : Nat) (x : Int) (hd : (pc : Int) + df = d) : ∀ (ps : List (Int × Int)) (cs : List (Int × Nat)), ps.map (fun q => (q.1, (pc : Int) + q.2)) = cs.map (fun q => (q.1, (q.2 : Int))) → (pc : Int) + Op.lookupswitch.offset ps df x = (bz_sw x cs d : Nat) := by
  intro ps
  induction ps with
  | nil =>
    intro cs h
    cases cs with
    | nil => simpa [Op.lookupswitch.offset, bz_sw] using hd
    | cons c cs => simp at h
  | cons q ps ih =>
    intro cs h
    cases cs with
    | nil => simp at h
    | cons c cs =>
      simp only [List.map_cons, List.cons.injEq, Prod.mk.injEq] at h
      obtain ⟨⟨h1, h2⟩, h3⟩ := h
      obtain ⟨a, o⟩ := q
      obtain ⟨a', t⟩ := c
      dsimp only at h1 h2
      subst h1
      rw [Op.lookupswitch.offset_cons]
      by_cases hx : x = a
      · subst hx
        simp [bz_sw, h2]
      · rw [if_neg (fun z => hx z.symm)]
        simp only [bz_sw, if_neg hx]
        exact ih cs h3
theorem bz_o_getI {ci k idx N kd : Nat} {C : String} {T : u_T} (hcl : vwCl[ci]? = some (C, T, N)) (hin : ∀ w ∈ u_ws C T N, w ∈ bz_TB) (hN : (bz_fk ci).length = N) (hk : (bz_fk ci)[k]? = some kd) (hw : Cond.fieldLink own idx (T k).1 (T k).2.1 (T k).2.2.1 ∈ bz_TB) (hkd : kd = 0 ∨ kd = 3) (hd : decode bytes pc = .ok (.getfield idx, 3)) : bz_ok own bytes pc (bz_getI ci k) := by
  intro X p l e R s m args below meth c Qf A ad ca D cells slots nL F L st σ g b h hg kk hn H locs ls hP hD hS hl
  obtain ⟨hx, hb, hml, hown, hts, hnw, hK, hA, hZ, hT, hce, hsl⟩ := F
  simp only [bz_getI] at h
  split at h
  · rename_i o r
    cases hb0 : bz_isO o ci with
    | false => rw [hb0] at h; cases h
    | true =>
      rw [hb0] at h
      simp only [cond_true, Option.some.injEq, Prod.mk.injEq] at h
      obtain ⟨rfl, rfl⟩ := h
      obtain ⟨ps, hsh⟩ := bz_isO_sp hb0
      have hkN : k < N := by rw [← hN]; exact (List.getElem?_eq_some_iff.mp hk).1
      have hgd : (bz_fk ci).getD k 0 = kd := by rw [List.getD_eq_getElem?_getD, hk]; rfl
      refine va_get (D := D) (cl := vwCl) (ci := ci) (C := C) (T := T) (N := N) (ws := bz_W ad ca σ) (fs := (List.range (bz_fk ci).length).map (fun k => bz_fv ad σ o ps k ((bz_fk ci).getD k 0))) hx hb hts hin hown hK hP o (bz_W_at hsh) hcl k hkN (hts _ hw) (fun _ h9 => h9) (v := .int (σ.1 o k)) ?_ hd (kk hn H locs ls hP hD hS hl)
      rw [List.getElem?_map, List.getElem?_range (by rw [hN]; exact hkN), Option.map_some, hgd]
      rcases hkd with rfl | rfl <;> rfl
  · cases h
theorem bz_o_getL {ci k idx N kd : Nat} {C : String} {T : u_T} (hcl : vwCl[ci]? = some (C, T, N)) (hin : ∀ w ∈ u_ws C T N, w ∈ bz_TB) (hN : (bz_fk ci).length = N) (hk : (bz_fk ci)[k]? = some kd) (hw : Cond.fieldLink own idx (T k).1 (T k).2.1 (T k).2.2.1 ∈ bz_TB) (hkd : kd = 1) (hd : decode bytes pc = .ok (.getfield idx, 3)) : bz_ok own bytes pc (bz_getL ci k) := by
  intro X p l e R s m args below meth c Qf A ad ca D cells slots nL F L st σ g b h hg kk hn H locs ls hP hD hS hl
  obtain ⟨hx, hb, hml, hown, hts, hnw, hK, hA, hZ, hT, hce, hsl⟩ := F
  simp only [bz_getL] at h
  split at h
  · rename_i o r
    cases hb0 : bz_isO o ci with
    | false => rw [hb0] at h; cases h
    | true =>
      rw [hb0] at h
      simp only [cond_true, Option.some.injEq, Prod.mk.injEq] at h
      obtain ⟨rfl, rfl⟩ := h
      obtain ⟨ps, hsh⟩ := bz_isO_sp hb0
      have hkN : k < N := by rw [← hN]; exact (List.getElem?_eq_some_iff.mp hk).1
      have hgd : (bz_fk ci).getD k 0 = kd := by rw [List.getD_eq_getElem?_getD, hk]; rfl
      refine va_get (D := D) (cl := vwCl) (ci := ci) (C := C) (T := T) (N := N) (ws := bz_W ad ca σ) (fs := (List.range (bz_fk ci).length).map (fun k => bz_fv ad σ o ps k ((bz_fk ci).getD k 0))) hx hb hts hin hown hK hP o (bz_W_at hsh) hcl k hkN (hts _ hw) (fun _ h9 => h9) (v := .long (σ.2 o k)) ?_ hd (kk hn H locs ls hP hD hS hl)
      rw [List.getElem?_map, List.getElem?_range (by rw [hN]; exact hkN), Option.map_some, hgd]
      subst hkd; rfl
  · cases h
theorem bz_o_getR {ci k idx N kd : Nat} {C : String} {T : u_T} (hcl : vwCl[ci]? = some (C, T, N)) (hin : ∀ w ∈ u_ws C T N, w ∈ bz_TB) (hN : (bz_fk ci).length = N) (hk : (bz_fk ci)[k]? = some kd) (hw : Cond.fieldLink own idx (T k).1 (T k).2.1 (T k).2.2.1 ∈ bz_TB) (hkd : kd = 2) (hd : decode bytes pc = .ok (.getfield idx, 3)) : bz_ok own bytes pc (bz_getR ci k) := by
  intro X p l e R s m args below meth c Qf A ad ca D cells slots nL F L st σ g b h hg kk hn H locs ls hP hD hS hl
  obtain ⟨hx, hb, hml, hown, hts, hnw, hK, hA, hZ, hT, hce, hsl⟩ := F
  simp only [bz_getR] at h
  split at h
  · rename_i o r
    cases hb0 : bz_isO o ci with
    | false => rw [hb0] at h; cases h
    | true =>
      rw [hb0] at h
      simp only [cond_true, Option.some.injEq, Prod.mk.injEq] at h
      obtain ⟨rfl, rfl⟩ := h
      obtain ⟨ps, hsh⟩ := bz_isO_sp hb0
      have hkN : k < N := by rw [← hN]; exact (List.getElem?_eq_some_iff.mp hk).1
      have hgd : (bz_fk ci).getD k 0 = kd := by rw [List.getD_eq_getElem?_getD, hk]; rfl
      refine va_get (D := D) (cl := vwCl) (ci := ci) (C := C) (T := T) (N := N) (ws := bz_W ad ca σ) (fs := (List.range (bz_fk ci).length).map (fun k => bz_fv ad σ o ps k ((bz_fk ci).getD k 0))) hx hb hts hin hown hK hP o (bz_W_at hsh) hcl k hkN (hts _ hw) (fun _ h9 => h9) (v := .ref (ad (bz_ref o k))) ?_ hd (kk hn H locs ls hP hD hS hl)
      rw [List.getElem?_map, List.getElem?_range (by rw [hN]; exact hkN), Option.map_some, hgd]
      subst hkd; simp [bz_fv, bz_ref, hsh]
  · cases h
theorem bz_o_putI {ci k idx N kd : Nat} {C : String} {T : u_T} (hcl : vwCl[ci]? = some (C, T, N)) (hin : ∀ w ∈ u_ws C T N, w ∈ bz_TB) (hN : (bz_fk ci).length = N) (hk : (bz_fk ci)[k]? = some kd) (hw : Cond.fieldLink own idx (T k).1 (T k).2.1 (T k).2.2.1 ∈ bz_TB) (ty : Nat → FieldType) (hty : ∀ k, k < N → parseFieldDescriptor (T k).2.2.1 = some (ty k)) (hnm : ∀ a, a < N → ∀ b, b < N → a ≠ b → (T a).2.1 ≠ (T b).2.1) (hfin : (T k).2.2.2 = false) (hkd : kd = 0) (htk : ty k = .int) (hd : decode bytes pc = .ok (.putfield idx, 3)) : bz_ok own bytes pc (bz_putI ci k) := by
  intro X p l e R s m args below meth c Qf A ad ca D cells slots nL F L st σ g b h hg kk hn H locs ls hP hD hS hl
  obtain ⟨hx, hb, hml, hown, hts, hnw, hK, hA, hZ, hT, hce, hsl⟩ := F
  simp only [bz_putI] at h
  split at h
  · rename_i x o r
    cases hb0 : bz_isO o ci with
    | false => rw [hb0] at h; cases h
    | true =>
      rw [hb0] at h
      simp only [cond_true, Option.some.injEq, Prod.mk.injEq] at h
      obtain ⟨rfl, rfl⟩ := h
      obtain ⟨ps, hsh⟩ := bz_isO_sp hb0
      have hkN : k < N := by rw [← hN]; exact (List.getElem?_eq_some_iff.mp hk).1
      have hgd : (bz_fk ci).getD k 0 = kd := by rw [List.getD_eq_getElem?_getD, hk]; rfl
      refine va_put (D := D) (cl := vwCl) (ci := ci) (C := C) (T := T) (N := N) (v := .int x) (ws := bz_W ad ca σ) (fs := (List.range (bz_fk ci).length).map (fun k => bz_fv ad σ o ps k ((bz_fk ci).getD k 0))) hx hb hts hin ty hty hnm hown hK hP hD hS o (bz_W_at hsh) hcl k hkN (hts _ hw) (fun _ h9 => h9) hfin (hty k hkN) (by rw [htk]; rfl) (by rw [htk]; rfl) (by simp [hN, hkN]) hd (fun H1 locs1 hP1 hD1 hS1 => ?_)
      have e1 : (bz_W ad ca σ).set o (ad o, .inr (ci, ((List.range (bz_fk ci).length).map (fun k => bz_fv ad σ o ps k ((bz_fk ci).getD k 0))).set k (.int x))) = bz_W ad ca (bz_up σ.1 o k x, σ.2) := by
        refine bz_W_set hsh ?_ (fun q hq j => ⟨?_, ?_⟩)
        · rw [bz_fs_set (σ' := (bz_up σ.1 o k x, σ.2)) (by rw [hgd]; subst hkd; simp [bz_fv, bz_up_s]) (fun j hj => ⟨?_, ?_⟩)]
          · rfl
          · first | rfl | exact bz_up_k hj
          · first | rfl | exact bz_up_k hj
        · first | rfl | exact bz_up_o hq
        · first | rfl | exact bz_up_o hq
      rw [e1] at hP1 hD1
      exact kk hn H1 locs1 ls hP1 hD1 hS1 hl
  · cases h
theorem bz_o_putZ {ci k idx N kd : Nat} {C : String} {T : u_T} (hcl : vwCl[ci]? = some (C, T, N)) (hin : ∀ w ∈ u_ws C T N, w ∈ bz_TB) (hN : (bz_fk ci).length = N) (hk : (bz_fk ci)[k]? = some kd) (hw : Cond.fieldLink own idx (T k).1 (T k).2.1 (T k).2.2.1 ∈ bz_TB) (ty : Nat → FieldType) (hty : ∀ k, k < N → parseFieldDescriptor (T k).2.2.1 = some (ty k)) (hnm : ∀ a, a < N → ∀ b, b < N → a ≠ b → (T a).2.1 ≠ (T b).2.1) (hfin : (T k).2.2.2 = false) (hkd : kd = 3) (htk : ty k = .boolean) (hd : decode bytes pc = .ok (.putfield idx, 3)) : bz_ok own bytes pc (bz_putZ ci k) := by
  intro X p l e R s m args below meth c Qf A ad ca D cells slots nL F L st σ g b h hg kk hn H locs ls hP hD hS hl
  obtain ⟨hx, hb, hml, hown, hts, hnw, hK, hA, hZ, hT, hce, hsl⟩ := F
  simp only [bz_putZ] at h
  split at h
  · rename_i x o r
    cases hb0 : bz_isO o ci with
    | false => rw [hb0] at h; cases h
    | true =>
      rw [hb0] at h
      simp only [cond_true, Option.some.injEq, Prod.mk.injEq] at h
      obtain ⟨rfl, rfl⟩ := h
      obtain ⟨ps, hsh⟩ := bz_isO_sp hb0
      have hkN : k < N := by rw [← hN]; exact (List.getElem?_eq_some_iff.mp hk).1
      have hgd : (bz_fk ci).getD k 0 = kd := by rw [List.getD_eq_getElem?_getD, hk]; rfl
      refine va_put (D := D) (cl := vwCl) (ci := ci) (C := C) (T := T) (N := N) (v := .int x) (ws := bz_W ad ca σ) (fs := (List.range (bz_fk ci).length).map (fun k => bz_fv ad σ o ps k ((bz_fk ci).getD k 0))) hx hb hts hin ty hty hnm hown hK hP hD hS o (bz_W_at hsh) hcl k hkN (hts _ hw) (fun _ h9 => h9) hfin (hty k hkN) (by rw [htk]; rcases hg.1 with q | q <;> rw [q] <;> rfl) (by rw [htk]; rcases hg.1 with q | q <;> rw [q] <;> rfl) (by simp [hN, hkN]) hd (fun H1 locs1 hP1 hD1 hS1 => ?_)
      have e1 : (bz_W ad ca σ).set o (ad o, .inr (ci, ((List.range (bz_fk ci).length).map (fun k => bz_fv ad σ o ps k ((bz_fk ci).getD k 0))).set k (.int x))) = bz_W ad ca (bz_up σ.1 o k x, σ.2) := by
        refine bz_W_set hsh ?_ (fun q hq j => ⟨?_, ?_⟩)
        · rw [bz_fs_set (σ' := (bz_up σ.1 o k x, σ.2)) (by rw [hgd]; subst hkd; simp [bz_fv, bz_up_s]) (fun j hj => ⟨?_, ?_⟩)]
          · rfl
          · first | rfl | exact bz_up_k hj
          · first | rfl | exact bz_up_k hj
        · first | rfl | exact bz_up_o hq
        · first | rfl | exact bz_up_o hq
      rw [e1] at hP1 hD1
      exact kk hn H1 locs1 ls hP1 hD1 hS1 hl
  · cases h
theorem bz_o_putL {ci k idx N kd : Nat} {C : String} {T : u_T} (hcl : vwCl[ci]? = some (C, T, N)) (hin : ∀ w ∈ u_ws C T N, w ∈ bz_TB) (hN : (bz_fk ci).length = N) (hk : (bz_fk ci)[k]? = some kd) (hw : Cond.fieldLink own idx (T k).1 (T k).2.1 (T k).2.2.1 ∈ bz_TB) (ty : Nat → FieldType) (hty : ∀ k, k < N → parseFieldDescriptor (T k).2.2.1 = some (ty k)) (hnm : ∀ a, a < N → ∀ b, b < N → a ≠ b → (T a).2.1 ≠ (T b).2.1) (hfin : (T k).2.2.2 = false) (hkd : kd = 1) (htk : ty k = .long) (hd : decode bytes pc = .ok (.putfield idx, 3)) : bz_ok own bytes pc (bz_putL ci k) := by
  intro X p l e R s m args below meth c Qf A ad ca D cells slots nL F L st σ g b h hg kk hn H locs ls hP hD hS hl
  obtain ⟨hx, hb, hml, hown, hts, hnw, hK, hA, hZ, hT, hce, hsl⟩ := F
  simp only [bz_putL] at h
  split at h
  · rename_i x o r
    cases hb0 : bz_isO o ci with
    | false => rw [hb0] at h; cases h
    | true =>
      rw [hb0] at h
      simp only [cond_true, Option.some.injEq, Prod.mk.injEq] at h
      obtain ⟨rfl, rfl⟩ := h
      obtain ⟨ps, hsh⟩ := bz_isO_sp hb0
      have hkN : k < N := by rw [← hN]; exact (List.getElem?_eq_some_iff.mp hk).1
      have hgd : (bz_fk ci).getD k 0 = kd := by rw [List.getD_eq_getElem?_getD, hk]; rfl
      refine va_put (D := D) (cl := vwCl) (ci := ci) (C := C) (T := T) (N := N) (v := .long x) (ws := bz_W ad ca σ) (fs := (List.range (bz_fk ci).length).map (fun k => bz_fv ad σ o ps k ((bz_fk ci).getD k 0))) hx hb hts hin ty hty hnm hown hK hP hD hS o (bz_W_at hsh) hcl k hkN (hts _ hw) (fun _ h9 => h9) hfin (hty k hkN) (by rw [htk]; rfl) (by rw [htk]; rfl) (by simp [hN, hkN]) hd (fun H1 locs1 hP1 hD1 hS1 => ?_)
      have e1 : (bz_W ad ca σ).set o (ad o, .inr (ci, ((List.range (bz_fk ci).length).map (fun k => bz_fv ad σ o ps k ((bz_fk ci).getD k 0))).set k (.long x))) = bz_W ad ca (σ.1, bz_up σ.2 o k x) := by
        refine bz_W_set hsh ?_ (fun q hq j => ⟨?_, ?_⟩)
        · rw [bz_fs_set (σ' := (σ.1, bz_up σ.2 o k x)) (by rw [hgd]; subst hkd; simp [bz_fv, bz_up_s]) (fun j hj => ⟨?_, ?_⟩)]
          · rfl
          · first | rfl | exact bz_up_k hj
          · first | rfl | exact bz_up_k hj
        · first | rfl | exact bz_up_o hq
        · first | rfl | exact bz_up_o hq
      rw [e1] at hP1 hD1
      exact kk hn H1 locs1 ls hP1 hD1 hS1 hl
  · cases h
theorem bz_o_zald (hd : decode bytes pc = .ok (.baload, 1)) : bz_ok own bytes pc (bz_zald) := by
  intro X p l e R s m args below meth c Qf A ad ca D cells slots nL F L st σ g b h hg kk hn H locs ls hP hD hS hl
  obtain ⟨hx, hb, hml, hown, hts, hnw, hK, hA, hZ, hT, hce, hsl⟩ := F
  simp only [bz_zald] at h
  split at h
  · rename_i i o r
    split at h
    · rename_i n hA0
      simp only [Option.some.injEq, Prod.mk.injEq] at h
      obtain ⟨rfl, rfl⟩ := h
      obtain ⟨rs, hsh⟩ := bz_isA_sp hA0
      exact va_zald (ws := bz_W ad ca σ) (tys := bz_tys ca) hx hb hK hP o 2 (bz_W_at hsh) rfl hg.1 hd (kk hn H locs ls hP hD hS hl)
    · cases h
  · cases h
theorem bz_o_lald (hd : decode bytes pc = .ok (.laload, 1)) : bz_ok own bytes pc (bz_lald) := by
  intro X p l e R s m args below meth c Qf A ad ca D cells slots nL F L st σ g b h hg kk hn H locs ls hP hD hS hl
  obtain ⟨hx, hb, hml, hown, hts, hnw, hK, hA, hZ, hT, hce, hsl⟩ := F
  simp only [bz_lald] at h
  split at h
  · rename_i i o r
    split at h
    · rename_i n hA0
      simp only [Option.some.injEq, Prod.mk.injEq] at h
      obtain ⟨rfl, rfl⟩ := h
      obtain ⟨rs, hsh⟩ := bz_isA_sp hA0
      exact va_lald (ws := bz_W ad ca σ) (tys := bz_tys ca) hx hb hK hP o 1 (bz_W_at hsh) rfl hg.1 hd (kk hn H locs ls hP hD hS hl)
    · cases h
  · cases h
theorem bz_o_aald (hd : decode bytes pc = .ok (.aaload, 1)) : bz_ok own bytes pc (bz_aald) := by
  intro X p l e R s m args below meth c Qf A ad ca D cells slots nL F L st σ g b h hg kk hn H locs ls hP hD hS hl
  obtain ⟨hx, hb, hml, hown, hts, hnw, hK, hA, hZ, hT, hce, hsl⟩ := F
  simp only [bz_aald] at h
  split at h
  · rename_i i o r
    split at h
    · rename_i n hA0
      simp only [Option.some.injEq, Prod.mk.injEq] at h
      obtain ⟨rfl, rfl⟩ := h
      obtain ⟨rs, hsh⟩ := bz_isA_sp hA0
      have k0 := (kk hn H locs ls hP hD hS hl)
      have er : bz_ref o i.toNatClampNeg = (n :: rs).getD (i.toNatClampNeg + 1) 0 := by simp [bz_ref, hsh]
      rw [er] at k0
      exact va_aldq (ws := bz_W ad ca σ) (tys := bz_tys ca) hx hb hK hP o 3 (bz_W_at hsh) rfl hg.1 hd k0
    · cases h
  · cases h
theorem bz_o_iald (hd : decode bytes pc = .ok (.iaload, 1)) : bz_ok own bytes pc (bz_iald) := by
  intro X p l e R s m args below meth c Qf A ad ca D cells slots nL F L st σ g b h hg kk hn H locs ls hP hD hS hl
  obtain ⟨hx, hb, hml, hown, hts, hnw, hK, hA, hZ, hT, hce, hsl⟩ := F
  simp only [bz_iald] at h
  split at h
  · rename_i i o r
    cases hb0 : Nat.blt o 1000 with
    | true =>
      rw [hb0] at h
      simp only [cond_true] at h
      split at h
      · rename_i n hA0
        simp only [Option.some.injEq, Prod.mk.injEq] at h
        obtain ⟨rfl, rfl⟩ := h
        obtain ⟨rs, hsh⟩ := bz_isA_sp hA0
        exact va_iald (ws := bz_W ad ca σ) (tys := bz_tys ca) hx hb hK hP o 0 (bz_W_at hsh) rfl hg.1 hd (kk hn H locs ls hP hD hS hl)
      · cases h
    | false =>
      rw [hb0] at h
      simp only [cond_false] at h
      cases hb1 : Nat.blt o 1004 with
      | false => rw [hb1] at h; cases h
      | true =>
        rw [hb1] at h
        simp only [cond_true, Option.some.injEq, Prod.mk.injEq] at h
        obtain ⟨rfl, rfl⟩ := h
        have h1 : ¬ o < 1000 := fun z => by
          have : Nat.blt o 1000 = true := Nat.ble_eq_true_of_le z
          rw [this] at hb0; cases hb0
        have h2 : o < 1004 := Nat.le_of_ble_eq_true hb1
        obtain ⟨j, hj4, rfl⟩ : ∃ j, j < 4 ∧ o = 1000 + j := bz_o1000 o h1 h2
        rw [Nat.add_sub_cancel_left] at hg kk
        exact va_ti hx hb (hT j hj4) hS hg.1 rfl hd (kk hn H locs ls hP hD hS hl)
  · cases h
theorem bz_o_iast (hd : decode bytes pc = .ok (.iastore, 1)) : bz_ok own bytes pc (bz_iast) := by
  intro X p l e R s m args below meth c Qf A ad ca D cells slots nL F L st σ g b h hg kk hn H locs ls hP hD hS hl
  obtain ⟨hx, hb, hml, hown, hts, hnw, hK, hA, hZ, hT, hce, hsl⟩ := F
  simp only [bz_iast] at h
  split at h
  · rename_i x i o r
    split at h
    · rename_i n hA0
      simp only [Option.some.injEq, Prod.mk.injEq] at h
      obtain ⟨rfl, rfl⟩ := h
      obtain ⟨rs, hsh⟩ := bz_isA_sp hA0
      refine va_iast (n := n) (f := σ.1 o) (ws := bz_W ad ca σ) (tys := bz_tys ca) hx hb hK hP hD hS o 0 (bz_W_at hsh) rfl hg.1 hd (fun H1 locs1 hP1 hD1 hS1 => ?_)
      have e1 : (bz_W ad ca σ).set o (ad o, .inl (ca 0, n, .inl (upd (σ.1 o) i.toNatClampNeg x))) = bz_W ad ca (bz_up σ.1 o i.toNatClampNeg x, σ.2) := by
        refine bz_W_set hsh ?_ (fun q hq j => ⟨?_, ?_⟩)
        · refine congrArg (fun f => (Sum.inl (ca 0, n, .inl f) : va_E)) ?_
          funext j
          simp [bz_up, upd, vp_updL]
        · first | rfl | exact bz_up_o hq
        · first | rfl | exact bz_up_o hq
      rw [e1] at hP1 hD1
      exact kk hn H1 locs1 ls hP1 hD1 hS1 hl
    · cases h
  · cases h
theorem bz_o_last (hd : decode bytes pc = .ok (.lastore, 1)) : bz_ok own bytes pc (bz_last) := by
  intro X p l e R s m args below meth c Qf A ad ca D cells slots nL F L st σ g b h hg kk hn H locs ls hP hD hS hl
  obtain ⟨hx, hb, hml, hown, hts, hnw, hK, hA, hZ, hT, hce, hsl⟩ := F
  simp only [bz_last] at h
  split at h
  · rename_i x i o r
    split at h
    · rename_i n hA0
      simp only [Option.some.injEq, Prod.mk.injEq] at h
      obtain ⟨rfl, rfl⟩ := h
      obtain ⟨rs, hsh⟩ := bz_isA_sp hA0
      refine va_last (n := n) (f := σ.2 o) (ws := bz_W ad ca σ) (tys := bz_tys ca) hx hb hK hP hD hS o 1 (bz_W_at hsh) rfl hg.1 hd (fun H1 locs1 hP1 hD1 hS1 => ?_)
      have e1 : (bz_W ad ca σ).set o (ad o, .inl (ca 1, n, .inr (.inl (vp_updL (σ.2 o) i.toNatClampNeg x)))) = bz_W ad ca (σ.1, bz_up σ.2 o i.toNatClampNeg x) := by
        refine bz_W_set hsh ?_ (fun q hq j => ⟨?_, ?_⟩)
        · refine congrArg (fun f => (Sum.inl (ca 1, n, .inr (.inl f)) : va_E)) ?_
          funext j
          simp [bz_up, upd, vp_updL]
        · first | rfl | exact bz_up_o hq
        · first | rfl | exact bz_up_o hq
      rw [e1] at hP1 hD1
      exact kk hn H1 locs1 ls hP1 hD1 hS1 hl
    · cases h
  · cases h
theorem bz_o_zast (hd : decode bytes pc = .ok (.bastore, 1)) : bz_ok own bytes pc (bz_zast) := by
  intro X p l e R s m args below meth c Qf A ad ca D cells slots nL F L st σ g b h hg kk hn H locs ls hP hD hS hl
  obtain ⟨hx, hb, hml, hown, hts, hnw, hK, hA, hZ, hT, hce, hsl⟩ := F
  simp only [bz_zast] at h
  split at h
  · rename_i x i o r
    split at h
    · rename_i n hA0
      simp only [Option.some.injEq, Prod.mk.injEq] at h
      obtain ⟨rfl, rfl⟩ := h
      obtain ⟨rs, hsh⟩ := bz_isA_sp hA0
      refine va_zast (n := n) (f := σ.1 o) (ws := bz_W ad ca σ) (tys := bz_tys ca) hx hb hK hP hD hS o 2 (bz_W_at hsh) rfl hg.1.1 hd (fun H1 locs1 hP1 hD1 hS1 => ?_)
      have ez : vp_nar .boolean x = x := by rcases hg.1.2 with q | q <;> rw [q] <;> rfl
      rw [ez] at hP1 hD1
      have e1 : (bz_W ad ca σ).set o (ad o, .inl (ca 2, n, .inl (upd (σ.1 o) i.toNatClampNeg x))) = bz_W ad ca (bz_up σ.1 o i.toNatClampNeg x, σ.2) := by
        refine bz_W_set hsh ?_ (fun q hq j => ⟨?_, ?_⟩)
        · refine congrArg (fun f => (Sum.inl (ca 2, n, .inl f) : va_E)) ?_
          funext j
          simp [bz_up, upd, vp_updL]
        · first | rfl | exact bz_up_o hq
        · first | rfl | exact bz_up_o hq
      rw [e1] at hP1 hD1
      exact kk hn H1 locs1 ls hP1 hD1 hS1 hl
    · cases h
  · cases h
theorem bz_o_slen (hd : decode bytes pc = .ok (.arraylength, 1)) : bz_ok own bytes pc (bz_slen) := by
  intro X p l e R s m args below meth c Qf A ad ca D cells slots nL F L st σ g b h hg kk hn H locs ls hP hD hS hl
  obtain ⟨hx, hb, hml, hown, hts, hnw, hK, hA, hZ, hT, hce, hsl⟩ := F
  simp only [bz_slen] at h
  split at h
  · rename_i o r
    cases hb0 : Nat.beq o 1003 with
    | false => rw [hb0] at h; cases h
    | true =>
      rw [hb0] at h
      simp only [cond_true, Option.some.injEq, Prod.mk.injEq] at h
      obtain ⟨rfl, rfl⟩ := h
      have : o = 1000 + 3 := Nat.eq_of_beq_eq_true hb0
      subst this
      exact va_tlen hx hb (hT 3 (by omega)) hS rfl hd (kk hn H locs ls hP hD hS hl)
  · cases h
theorem bz_o_gets {i idx : Nat} (hi : i < 3) (hd : decode bytes pc = .ok (.getstatic idx, 3)) (hw : Cond.fieldLink own idx "BaizeCorps" (bz_sn i) "[I" ∈ bz_TB) : bz_ok own bytes pc (bz_push (.ref (1000 + i)) 3) := by
  intro X p l e R s m args below meth c Qf A ad ca D cells slots nL F L st σ g b h hg kk hn H locs ls hP hD hS hl
  obtain ⟨hx, hb, hml, hown, hts, hnw, hK, hA, hZ, hT, hce, hsl⟩ := F
  simp only [bz_push, Option.some.injEq, Prod.mk.injEq] at h
  obtain ⟨rfl, rfl⟩ := h
  exact va_gets hx hb (hZ i hi) hS hown (hts _ hw) (fun _ h9 => h9) hd (kk hn H locs ls hP hD hS hl)
theorem bz_o_getsN {i idx : Nat} {host : String} (hi : i < 3) (hd : decode bytes pc = .ok (.getstatic idx, 3)) (hw : Cond.fieldLinkNest own idx "BaizeCorps" (bz_sn i) "[I" host ∈ bz_NB) : bz_ok own bytes pc (bz_push (.ref (1000 + i)) 3) := by
  intro X p l e R s m args below meth c Qf A ad ca D cells slots nL F L st σ g b h hg kk hn H locs ls hP hD hS hl
  obtain ⟨hx, hb, hml, hown, hts, hnw, hK, hA, hZ, hT, hce, hsl⟩ := F
  simp only [bz_push, Option.some.injEq, Prod.mk.injEq] at h
  obtain ⟨rfl, rfl⟩ := h
  exact va_getsN hx hb (hZ i hi) hS hown (va_Nw.use rfl (hnw _ hw)) (fun _ h9 => h9) hd (kk hn H locs ls hP hD hS hl)
theorem bz_o_table {df lo hi : Int} {offs : Array Int} {len d : Nat} {ts : List Nat} (hd : decode bytes pc = .ok (.tableswitch df lo hi offs, len)) (h1 : hi + 1 = lo + ts.length) (h2 : offs.toList.map (fun o => (pc : Int) + o) = ts.map (fun (t : Nat) => (t : Int))) (h3 : (pc : Int) + df = d) : bz_ok own bytes pc (bz_switch (bz_mk lo ts) d) := by
  intro X p l e R s m args below meth c Qf A ad ca D cells slots nL F L st σ g b h hg kk hn H locs ls hP hD hS hl
  obtain ⟨hx, hb, hml, hown, hts, hnw, hK, hA, hZ, hT, hce, hsl⟩ := F
  simp only [bz_switch] at h
  split at h
  · rename_i x r
    simp only [Option.some.injEq, Prod.mk.injEq] at h
    obtain ⟨rfl, rfl⟩ := h
    obtain ⟨i1, i2⟩ := bz_sw_mk d x.toInt ts lo
    by_cases hlo : x.toInt < lo ∨ hi < x.toInt
    · rw [i1 (by omega)] at kk
      exact lv_tableOut hx hb hd hlo h3 (kk hn H locs ls hP hD hS hl)
    · have hi1 : lo ≤ x.toInt := by omega
      have hi2 : x.toInt < lo + ts.length := by omega
      rw [i2 hi1 hi2] at kk
      have hj : (x.toInt - lo).toNat < ts.length := by omega
      have hlen : offs.toList.length = ts.length := by have := congrArg List.length h2; simpa using this
      have hj2 : (x.toInt - lo).toNat < offs.size := by rw [← Array.length_toList, hlen]; exact hj
      have e1 : (offs.toList.map (fun o => (pc : Int) + o))[(x.toInt - lo).toNat]? = (ts.map (fun (t : Nat) => (t : Int)))[(x.toInt - lo).toNat]? := by rw [h2]
      have e2 : offs.toList[(x.toInt - lo).toNat]? = some (offs[(x.toInt - lo).toNat]'hj2) := by simp [hj2]
      have e3 : ts[(x.toInt - lo).toNat]? = some (ts[(x.toInt - lo).toNat]'hj) := List.getElem?_eq_getElem hj
      rw [List.getElem?_map, List.getElem?_map, e2, e3] at e1
      simp only [Option.map_some, Option.some.injEq] at e1
      have e4 : ts.getD (x.toInt - lo).toNat 0 = ts[(x.toInt - lo).toNat]'hj := by rw [List.getD_eq_getElem?_getD, e3]; rfl
      rw [e4] at kk
      exact lv_tableIn hx hb hd (by omega) (by omega) (off := offs[(x.toInt - lo).toNat]'hj2) (by simp [hj2]) e1 (kk hn H locs ls hP hD hS hl)
  · cases h
theorem bz_o_lookup {df : Int} {ps : Array (Int × Int)} {len d : Nat} {cs : List (Int × Nat)} (hd : decode bytes pc = .ok (.lookupswitch df ps, len)) (h1 : (ps.toList.zip (ps.toList.drop 1)).all (fun (a, next) => a.1 < next.1) = true) (h2 : ps.toList.map (fun q => (q.1, (pc : Int) + q.2)) = cs.map (fun q => (q.1, (q.2 : Int)))) (h3 : (pc : Int) + df = d) : bz_ok own bytes pc (bz_switch cs d) := by
  intro X p l e R s m args below meth c Qf A ad ca D cells slots nL F L st σ g b h hg kk hn H locs ls hP hD hS hl
  obtain ⟨hx, hb, hml, hown, hts, hnw, hK, hA, hZ, hT, hce, hsl⟩ := F
  simp only [bz_switch] at h
  split at h
  · rename_i x r
    simp only [Option.some.injEq, Prod.mk.injEq] at h
    obtain ⟨rfl, rfl⟩ := h
    exact lv_lookup hx hb hd h1 rfl (bz_sw_lk pc df d x.toInt h3 ps.toList cs h2) (kk hn H locs ls hP hD hS hl)
  · cases h
end OK
end
section
/-! CALLS AND ANSWERS: a contract of the small machine is one of the kit's -/
/-- the answers of a frame -/
def bz_H (T : List bz_E) (Q : bz_Q) (p : Program) (l : Launch) (e : Env) (R : Room) (s : State) (m : MethodId) (args : Array Value) (below : List Frame) (meth : Method) (c : Code) (Qf : State → Prop) (A : Nat → Prop) (ad : Nat → Nat) (ca : Nat → ClassId) (D : va_G) (cells slots nL : Nat) : Prop := ∀ (pc j : Nat) (st : List Value) (v : Option Value) (σ : bz_S), bz_lk T pc = some (.inr (.inr j)) → bz_rv j st = some v → bz_rg j st → Q v σ → ∀ (H : Heap) (locs : List Loc) (ls : Array Slot), va_P D vwCl (bz_W ad ca σ) H → va_D A (bz_W ad ca σ) → va_S A s.heap H locs → W p l e R s m args below meth c H locs cells slots Qf (F0 m pc ls (st.map (bz_cz ad)))
def bz_snd (P : Nat → bz_M) (l : Launch) (X : bz_X) (k : Nat) (Q : bz_Q) (a : bz_A) : Prop := ∀ (p : Program) (e : Env) (R : Room) (s : State) (m : MethodId) (args : Array Value) (below : List Frame) (meth : Method) (c : Code) (Qf : State → Prop) (A : Nat → Prop) (ad : Nat → Nat) (ca : Nat → ClassId) (D : va_G) (cells slots nL : Nat), bz_F X (P k).1 (P k).2.2.1 p l e R s m args below meth c Qf A ad ca D cells slots nL → (P k).2.2.2.2.2.1 ≤ R.frames → (P k).2.2.2.2.2.2.1 ≤ R.locals → nL = (P k).2.2.2.1 → bz_H (P k).2.2.2.2.2.2.2 Q p l e R s m args below meth c Qf A ad ca D cells slots nL → bz_R p l e R s m args below meth c Qf A ad ca D cells slots nL a
def bz_ws (M : bz_M) : List Cond := .code M.2.1 M.2.2.1 M.2.2.2.1 M.2.2.2.2.1 :: bz_TB
def bz_rm (M : bz_M) : Room := { frames := M.2.2.2.2.2.1, cells := 0, slots := 0, locals := M.2.2.2.2.2.2.1 }
def bz_Pic (X : bz_X) (ad : Nat → Nat) (ca : Nat → ClassId) (D : va_G) (σ : bz_S) (sz : Nat) : State → Prop := fun U => U.heap.size = sz ∧ va_P D vwCl (bz_W ad ca σ) U.heap ∧ va_K D vwCl (bz_tys ca) U ∧ va_D (fun _ => True) (bz_W ad ca σ) ∧ (∀ w ∈ bz_NB, va_Nw w U) ∧ (∀ i, i < 3 → va_Z "BaizeCorps" (bz_sn i) "[I" (.ref (ad (1000 + i))) (va_A (bz_W ad ca σ) sz) U U.heap) ∧ (∀ i, i < 4 → va_T .int (ad (1000 + i)) (bz_tn X i) (fun j => .int (bz_tv X i j)) (va_A (bz_W ad ca σ) sz) U U.heap)
def bz_Qc (ad : Nat → Nat) (ca : Nat → ClassId) (D : va_G) (σ : bz_S) (sz : Nat) (Q : bz_Q) : Array Value → State → Outcome → State → Prop := fun _ st oc t =>
  (∃ (v : Option Value) (σ' : bz_S), oc = .returned v ∧ v.toList.map (bz_cz ad) = v.toList ∧ Q v σ' ∧ va_P D vwCl (bz_W ad ca σ') t.heap ∧ va_D (va_A (bz_W ad ca σ) sz) (bz_W ad ca σ')) ∧ va_F (va_A (bz_W ad ca σ) sz) st t
theorem bz_TB_mem {w : Cond} (h : w ∈ bz_TB) : w ∈ lw_tbl ∧ goodWord w = true := List.mem_filter.mp h
theorem bz_good {ws : List Cond} (h : ∀ w ∈ ws, w ∈ bz_TB) : GoodIn bz_TB ws := fun w hw => ⟨h w hw, good_of_word (bz_TB_mem (h w hw)).2⟩
theorem bz_NB_sp {w : Cond} (h : w ∈ bz_NB) : (∃ a i x h', w = .methodLinkNest a i x h') ∨ ∃ a i b n d h', w = .fieldLinkNest a i b n d h' := by
  have h2 := (List.mem_filter.mp h).2
  split at h2
  · exact Or.inl ⟨_, _, _, _, rfl⟩
  · exact Or.inr ⟨_, _, _, _, _, _, rfl⟩
  · cases h2
theorem bz_NB_warm {s U : State} (hW : s.WarmedH U.vm) (h : ∀ w ∈ bz_NB, va_Nw w s) : ∀ w ∈ bz_NB, va_Nw w U := by
  intro w hw
  have h1 := h w hw
  rcases bz_NB_sp hw with ⟨a, i, x, h', rfl⟩ | ⟨a, i, b, n, d, h', rfl⟩
  · exact va_Nw.warmM hW h1
  · exact va_Nw.warmF hW h1
theorem bz_NB_same {s U : State} (hv : s.vm = U.vm) (h : ∀ w ∈ bz_NB, va_Nw w s) : ∀ w ∈ bz_NB, va_Nw w U := by
  intro w hw
  have h1 := h w hw
  rcases bz_NB_sp hw with ⟨a, i, x, h', rfl⟩ | ⟨a, i, b, n, d, h', rfl⟩
  · exact va_Nw.same rfl hv h1
  · exact va_Nw.same rfl hv h1
theorem bz_blind {X : bz_X} {ad : Nat → Nat} {ca : Nat → ClassId} {D : va_G} {σ : bz_S} {sz : Nat} {av : List Value} : FrameBlind (va_Pc av (bz_Pic X ad ca D σ sz)) := by
  intro a U g mk h
  obtain ⟨h0, h1, h2, h3, h4, h5, h6, h7⟩ := h
  exact ⟨h0, h1, h2, va_K.moved (u := U) (U := U.calling g mk a) (Vm.Alike.refl U.vm) h3, h4, bz_NB_same (s := U) (U := U.calling g mk a) rfl h5, fun i hi => (h6 i hi).moved (U := U.calling g mk a) (Vm.Alike.refl U.vm), fun i hi => (h7 i hi).moved (U := U.calling g mk a) (Vm.Alike.refl U.vm)⟩
theorem bz_in0_mem (ad : Nat → Nat) : ∀ (as : List Value) (i j : Nat) (v : Value), (bz_in0 as)[j]? = some (some v) → (i + j, bz_cz ad v) ∈ lv_args i (as.map (bz_cz ad)) := by
  intro as
  induction as with
  | nil => intro i j v h; simp [bz_in0] at h
  | cons a r ih =>
    intro i j v h
    have one : bz_in0 (a :: r) = some a :: bz_in0 r → (bz_cz ad a).category ≠ 2 → (i + j, bz_cz ad v) ∈ lv_args i ((a :: r).map (bz_cz ad)) := by
      intro he hc
      rw [he] at h
      simp only [List.map_cons, lv_args, if_neg hc]
      cases j with
      | zero =>
        simp only [List.getElem?_cons_zero, Option.some.injEq] at h
        subst h
        exact List.mem_cons_self
      | succ j =>
        rw [List.getElem?_cons_succ] at h
        have := ih (i + 1) j v h
        rw [show i + 1 + j = i + (j + 1) by omega] at this
        exact List.mem_cons_of_mem _ this
    have two : bz_in0 (a :: r) = some a :: none :: bz_in0 r → (bz_cz ad a).category = 2 → (i + j, bz_cz ad v) ∈ lv_args i ((a :: r).map (bz_cz ad)) := by
      intro he hc
      rw [he] at h
      simp only [List.map_cons, lv_args, if_pos hc]
      cases j with
      | zero =>
        simp only [List.getElem?_cons_zero, Option.some.injEq] at h
        subst h
        exact List.mem_cons_self
      | succ j =>
        rw [List.getElem?_cons_succ] at h
        cases j with
        | zero => simp at h
        | succ j =>
          rw [List.getElem?_cons_succ] at h
          have := ih (i + 2) j v h
          rw [show i + 2 + j = i + (j + 1 + 1) by omega] at this
          exact List.mem_cons_of_mem _ this
    cases a with
    | long x => exact two rfl rfl
    | double x => exact two rfl rfl
    | int x => exact one rfl (fun z => by cases z)
    | float x => exact one rfl (fun z => by cases z)
    | null => exact one rfl (fun z => by cases z)
    | ref x => exact one rfl (fun z => by cases z)
    | retAddr x => exact one rfl (fun z => by cases z)
theorem bz_sl_len (ad : Nat → Nat) : ∀ as : List Value, (lg_sl (as.map (bz_cz ad))).length = (bz_in0 as).length := by
  intro as
  induction as with
  | nil => rfl
  | cons a r ih =>
    have e : lg_sl ((a :: r).map (bz_cz ad)) = (if (bz_cz ad a).category = 2 then [.val (bz_cz ad a), .second] else [.val (bz_cz ad a)]) ++ lg_sl (r.map (bz_cz ad)) := rfl
    rw [e, List.length_append, ih]
    cases a <;> simp [bz_in0, bz_cz, Value.category] <;> omega
theorem bz_in_mem {ad : Nat → Nat} {as : List Value} {n : Nat} : ∀ q ∈ bz_lv ad (bz_in n as), q ∈ lv_args 0 (as.map (bz_cz ad)) := by
  rintro ⟨j, w⟩ hq
  obtain ⟨v, hv, hw⟩ := bz_lv_mem.mp hq
  dsimp only at hv hw
  subst hw
  unfold bz_in at hv
  by_cases hj : j < (bz_in0 as).length
  · rw [List.getElem?_append_left hj] at hv
    have := bz_in0_mem ad as 0 j v hv
    rwa [Nat.zero_add] at this
  · rw [List.getElem?_append_right (by omega), List.getElem?_replicate] at hv
    split at hv <;> cases hv
theorem bz_in_len {as : List Value} {n : Nat} (h : (bz_in0 as).length ≤ n) : (bz_in n as).length = n := by
  unfold bz_in
  rw [List.length_append, List.length_replicate]
  omega
theorem bz_rv_cz {ad : Nat → Nat} {j : Nat} {st : List Value} {v : Option Value} (h : bz_rv j st = some v) : v.toList.map (bz_cz ad) = v.toList ∧ st = v.toList := by
  unfold bz_rv at h
  split at h <;> cases h <;> exact ⟨rfl, rfl⟩
/-- what an answer's row is in the bytes -/
def bz_rok (bytes : ByteArray) (ret : Option FieldType) (pc j : Nat) : Prop := (j = 0 ∧ ret = none ∧ decode bytes pc = .ok (.return_, 1)) ∨ (j = 1 ∧ ret = some .int ∧ decode bytes pc = .ok (.ireturn, 1)) ∨ (j = 2 ∧ ret = some .long ∧ decode bytes pc = .ok (.lreturn, 1)) ∨ (j = 3 ∧ ret = some .boolean ∧ decode bytes pc = .ok (.ireturn, 1))
/-- a contract by the body's walk, also where the class isn't plainly named but no row of the natives bears the method's name -/
theorem bz_ofW {l : Launch} {y : MethodName} {ws ws' : List Cond} {rm : Room} {Pc : Array Value → State → Prop} {Qc : Array Value → State → Outcome → State → Prop} {mc ms : Nat} {free : Addr → Prop} {cc : ByteArray} {maxL : Nat} {ret : Option FieldType}
    (hy : plainFor y = true) (hw : ws = Cond.code y cc maxL ret :: ws')
    (body : ∀ p e s m args below meth c s₁, BodyLoose p l y (headSpec ws rm) cc maxL ret e s m args below meth c s₁ → c.maxLocals = maxL → Pc args s → W p l e (headSpec ws rm).room s m args below meth c s.heap [] 0 0 (MQ below Qc args s mc ms free) (entryFrame m args maxL)) : Met l y ws rm Pc Qc mc ms free := by
  refine MetFree.of_bodySF (code := cc) (maxLocals := maxL) (ret := ret) hy (fun args s m h hn => ?_) (fun p e s m args below meth c s₁ B hml hP _ => ?_)
  · obtain ⟨meth, c, h1, h2, h3, h4, h5, h6, -, -⟩ := Cond.code_spec hn (atoms_spec (ws := ws) h _ (by rw [hw]; exact List.mem_cons_self))
    exact ⟨meth, c, h1, h2, h3, h4, h5, h6⟩
  · have hh0 : s₁.heap = s.heap := by rw [B.state]; rfl
    obtain ⟨t, a1, o, b1, b2, b3⟩ := body p e s m args below meth c s₁ B hml hP s₁ hh0 (Stand.of_body B)
    exact ⟨t, o, a1, b1, b2, ⟨b3.1, b3.2⟩⟩
/-- the small machine's contract gives the kit's -/
theorem bz_met {P : Nat → bz_M} {l : Launch} {X : bz_X} {j : Nat} {Q : bz_Q} {as : List Value} {σ : bz_S} {ad : Nat → Nat} {ca : Nat → ClassId} {D : va_G} {sz : Nat} (hpn : plainFor (P j).2.1 = true) (how : (P j).1 = (P j).2.1.cls) (hr : ∀ pc i, bz_lk (P j).2.2.2.2.2.2.2 pc = some (.inr (.inr i)) → bz_rok (P j).2.2.1 (P j).2.2.2.2.1 pc i) (hm : (bz_in0 as).length ≤ (P j).2.2.2.1) (h : bz_snd P l X j Q (0, bz_in (P j).2.2.2.1 as, [], σ)) :
    Met l (P j).2.1 (bz_ws (P j)) (bz_rm (P j)) (va_Pc (as.map (bz_cz ad)) (bz_Pic X ad ca D σ sz)) (bz_Qc ad ca D σ sz Q) 0 0 (va_A (bz_W ad ca σ) sz) := by
  refine bz_ofW (cc := (P j).2.2.1) (maxL := (P j).2.2.2.1) (ret := (P j).2.2.2.2.1) hpn rfl ?_
  intro p e s m args below meth c s₁ B hml hv
  obtain ⟨rfl, hsz, hP, hK, hD, hnw, hZ, hT⟩ := hv
  have hx := B.exec
  have hb := B.bytes
  have hrt := B.returns
  have hlocks := B.notSynchronized
  have hts0 := atoms_spec (ws := bz_ws (P j)) B.pre
  have hown : s.vm.findClass (P j).1 = some m.cls := by rw [how]; exact findClass_of_methodNamed B.named
  subst hsz
  have hS : va_S (va_A (bz_W ad ca σ) s.heap.size) s.heap s.heap [] := va_S.rf
  have F : bz_F X (P j).1 (P j).2.2.1 p l e (headSpec (bz_ws (P j)) (bz_rm (P j))).room s m (as.map (bz_cz ad)).toArray below meth c (MQ below (bz_Qc ad ca D σ s.heap.size Q) (as.map (bz_cz ad)).toArray s 0 0 (va_A (bz_W ad ca σ) s.heap.size)) (va_A (bz_W ad ca σ) s.heap.size) ad ca D 0 0 (P j).2.2.2.1 :=
    ⟨hx, hb, hml, hown, fun w hw => hts0 w (List.mem_cons_of_mem _ hw), hnw, hK, fun q hq => Or.inr hq, hZ, hT, Nat.zero_le _, Nat.zero_le _⟩
  have hH : bz_H (P j).2.2.2.2.2.2.2 Q p l e (headSpec (bz_ws (P j)) (bz_rm (P j))).room s m (as.map (bz_cz ad)).toArray below meth c (MQ below (bz_Qc ad ca D σ s.heap.size Q) (as.map (bz_cz ad)).toArray s 0 0 (va_A (bz_W ad ca σ) s.heap.size)) (va_A (bz_W ad ca σ) s.heap.size) ad ca D 0 0 (P j).2.2.2.1 := by
    intro pc i st v σ' hlk hv hg hQ H locs ls hP' hD' hS'
    obtain ⟨hvz, rfl⟩ := bz_rv_cz (ad := ad) hv
    have hq : ∀ t : State, t.heap = H → s.WarmedH t.vm → bz_Qc ad ca D σ s.heap.size Q (as.map (bz_cz ad)).toArray s (.returned v) t := fun t ht _ => ⟨⟨v, σ', rfl, hvz, hQ, by rw [ht]; exact hP', hD'⟩, hS'.F ht⟩
    rw [hvz]
    rcases hr pc i hlk with ⟨rfl, h1, h2⟩ | ⟨rfl, h1, h2⟩ | ⟨rfl, h1, h2⟩ | ⟨rfl, h1, h2⟩
    · cases v with
      | none => exact W.vret hx hb (hrt.trans h1) hq hS'.2.2 h2
      | some w => simp [bz_rv] at hv
    · cases v with
      | none => simp [bz_rv] at hv
      | some w =>
        cases w with
        | int x => exact W.iret hx hb (hrt.trans h1) hq hS'.2.2 h2
        | _ => simp [bz_rv] at hv
    · cases v with
      | none => simp [bz_rv] at hv
      | some w =>
        cases w with
        | long x => exact W.lret hx hb (hrt.trans h1) hq hS'.2.2 h2
        | _ => simp [bz_rv] at hv
    · cases v with
      | none => simp [bz_rv] at hv
      | some w =>
        cases w with
        | int x =>
          have hx1 : x = 0 ∨ x = 1 := hg
          exact W.zret hx hb (hrt.trans h1) (by rcases hx1 with q | q <;> rw [q] <;> rfl) hq hS'.2.2 h2
        | _ => simp [bz_rv] at hv
  have key := h _ _ _ _ _ _ _ _ _ _ _ _ _ _ _ _ _ F (Nat.le_refl _) (Nat.le_refl _) rfl hH (bz_in_len hm)
  have hl := lv_entry (as.map (bz_cz ad)) (n := (P j).2.2.2.1) (by rw [bz_sl_len]; exact hm)
  rw [lg_entry_eq]
  exact key s.heap [] _ hP hD.self hS (bz_lv_mono hl bz_in_mem)
theorem bz_AF {A : Nat → Prop} {ws : va_W} {H0 H : Heap} {locs : List Loc} (hD : va_D A ws) (hS : va_S A H0 H locs) (hA : ∀ q : Nat, H0.size ≤ q → A q) : ∀ q : Nat, va_A ws H.size q → A q := by
  intro q h
  rcases h with ⟨k, e, h⟩ | h
  · exact hD.2 k (q, e) h
  · exact hA q (Nat.le_trans hS.1 h)
section BC
variable {p : Program} {l : Launch} {e : Env} {R : Room} {s : State} {m : MethodId} {args : Array Value} {below : List Frame} {meth : Method} {c : Code} {Qf : State → Prop} {A : Nat → Prop} {ad : Nat → Nat} {ca : Nat → ClassId} {D : va_G} {cells slots nL : Nat}
theorem bz_goes {pc : Nat} {ls : Array Slot} {st0 rest : List Value} {σ : bz_S} {Qc : bz_Q} {H : Heap} {locs : List Loc} {a : Array Value} (hr : va_Run p l e R s m args below meth c H locs cells slots 0 0 (F0 m pc ls st0) (rest.map (bz_cz ad)) (bz_Qc ad ca D σ H.size Qc a) (va_A (bz_W ad ca σ) H.size)) (hS : va_S A s.heap H locs) (hD : va_D A (bz_W ad ca σ)) (hA : ∀ q : Nat, s.heap.size ≤ q → A q)
    (kk : ∀ (v : Option Value) (σ' : bz_S), Qc v σ' → ∀ (H1 : Heap) (locs1 : List Loc), va_P D vwCl (bz_W ad ca σ') H1 → va_D A (bz_W ad ca σ') → va_S A s.heap H1 locs1 → W p l e R s m args below meth c H1 locs1 cells slots Qf (F0 m (pc + 3) ls ((v.toList ++ rest).map (bz_cz ad)))) : W p l e R s m args below meth c H locs cells slots Qf (F0 m pc ls st0) := by
  intro T hT X
  obtain ⟨v, st₀, t, T', L, h0, X', hL, e1, e2, ⟨⟨v', σ', hv, hvz, hq, hP1, hD1⟩, hz, hk⟩, st⟩ := hr T hT X
  cases hv
  rw [h0] at hz hk
  have hF := bz_AF hD hS hA
  obtain ⟨t2, a1, b1⟩ := kk v σ' hq T'.heap (locs ++ L) (by rw [e1]; exact hP1) (hD1.weaken (fun k q _ h => hF q.1 h)) ⟨Nat.le_trans hS.1 (by rw [e1]; exact hz), fun q h1 h2 => by rw [e1, hk q (Nat.lt_of_lt_of_le h1 hS.1) (fun z => h2 (hF q z))]; exact hS.2.1 q h1 h2, fun q hq => by
      rcases List.mem_append.mp hq with h | h
      · exact hS.2.2 q h
      · exact hF _ (hL q h)⟩ T' rfl X'
  rw [List.map_append, hvz] at a1
  exact ⟨t2, st t2 a1, b1⟩
theorem bz_pic {X : bz_X} {own : String} {bytes : ByteArray} {σ : bz_S} {H : Heap} {locs : List Loc} {U : State} (F : bz_F X own bytes p l e R s m args below meth c Qf A ad ca D cells slots nL) (hP : va_P D vwCl (bz_W ad ca σ) H) (hD : va_D A (bz_W ad ca σ)) (hS : va_S A s.heap H locs) (hU : U.heap = H) (hW : s.WarmedH U.vm) : bz_Pic X ad ca D σ H.size U := by
  obtain ⟨hx, hb, hml, hown, hts, hnw, hK, hA, hZ, hT, hce, hsl⟩ := F
  have hF := bz_AF hD hS hA
  have hk : ∀ q : Nat, q < s.heap.size → ¬ A q → U.heap[q]? = s.heap[q]? := fun q h1 h2 => by rw [hU]; exact hS.2.1 q h1 h2
  exact ⟨by rw [hU], by rw [hU]; exact hP, va_K.moved hW.alike hK, hD.weaken (fun _ _ _ _ => trivial), bz_NB_warm hW hnw, fun i hi => (((hZ i hi).kept hk).moved hW.alike).narrow hF, fun i hi => (((hT i hi).kept hk).moved hW.alike).narrow hF⟩
end BC
/-- what a method that is called must be -/
def bz_mok (M : bz_M) : Prop := plainFor M.2.1 = true ∧ M.1 = M.2.1.cls ∧ (∀ pc i, bz_lk M.2.2.2.2.2.2.2 pc = some (.inr (.inr i)) → bz_rok M.2.2.1 M.2.2.2.2.1 pc i) ∧ Cond.code M.2.1 M.2.2.1 M.2.2.2.1 M.2.2.2.2.1 ∈ bz_TB ∧ Cond.initialized M.2.1.cls ∈ bz_TB ∧ M.2.1.cls ≠ "java/lang/invoke/MethodHandle" ∧ M.2.1.cls ≠ "java/lang/invoke/VarHandle"
def bz_cok (P : Nat → bz_M) (l : Launch) (own : String) (bytes : ByteArray) (fr lo pc j n vk : Nat) : Prop := ∀ (X : bz_X) (p : Program) (e : Env) (R : Room) (s : State) (m : MethodId) (args : Array Value) (below : List Frame) (meth : Method) (c : Code) (Qf : State → Prop) (A : Nat → Prop) (ad : Nat → Nat) (ca : Nat → ClassId) (D : va_G) (cells slots nL : Nat), bz_F X own bytes p l e R s m args below meth c Qf A ad ca D cells slots nL → fr ≤ R.frames → lo ≤ R.locals → ∀ (L : List (Option Value)) (as rest : List Value) (σ : bz_S) (Qc : bz_Q), as.length = n → (bz_in0 as).length ≤ (P j).2.2.2.1 → bz_cat rest ≤ 8 → bz_rc vk as = true → bz_snd P l X j Qc (0, bz_in (P j).2.2.2.1 as, [], σ) → (∀ v σ', Qc v σ' → bz_R p l e R s m args below meth c Qf A ad ca D cells slots nL (pc + 3, L, v.toList ++ rest, σ')) → bz_R p l e R s m args below meth c Qf A ad ca D cells slots nL (pc, L, as.reverse ++ rest, σ)
theorem bz_cat_cz {ad : Nat → Nat} (st : List Value) : ((st.map (bz_cz ad)).map fun v => v.category).sum = bz_cat st := by
  simp [bz_cat, List.map_map, Function.comp_def, bz_cz_cat]
theorem bz_ws_in {M : bz_M} (h : Cond.code M.2.1 M.2.2.1 M.2.2.2.1 M.2.2.2.2.1 ∈ bz_TB) : ∀ w ∈ bz_ws M, w ∈ bz_TB := fun w hw => (List.mem_cons.mp hw).elim (fun e => e ▸ h) (fun h => h)
theorem bz_cS {P : Nat → bz_M} {l : Launch} {own : String} {bytes : ByteArray} {fr lo pc j n idx : Nat} (hj : bz_mok (P j)) (hd : decode bytes pc = .ok (.invokestatic idx, 3)) (hl : Cond.methodLink own idx (P j).2.1 ∈ bz_TB) (hs : Cond.static (P j).2.1 ∈ bz_TB) (hpar : (parseMethodDescriptor (P j).2.1.desc).map (fun d => d.parameters.length) = some n) (hfr : (P j).2.2.2.2.2.1 + 1 ≤ fr) (hlo : 8 + ((P j).2.2.2.1 + 11) + (P j).2.2.2.2.2.2.1 ≤ lo) : bz_cok P l own bytes fr lo pc j n 0 := by
  obtain ⟨hpn, how, hr, hcw, hiw, hy1, hy2⟩ := hj
  intro X p e R s m args below meth c Qf A ad ca D cells slots nL F hfR hlR L as rest σ Qc hn hm hcat hrc hsnd kk hnL H locs ls hP hD hS hlv
  have F0' := F
  obtain ⟨hx, hb, hml, hown, hts, hnw, hK, hA, hZ, hT, hce, hsl⟩ := F
  have hM := bz_met (ad := ad) (ca := ca) (D := D) (sz := H.size) hpn how hr hm hsnd
  have cw := va_cwS (R := R) (s := s) (args := args) (own := own) (index := idx) (rm := bz_rm (P j)) (mc := 0) (ms := 0) n hts (bz_good (ws := va_wsS own idx (P j).2.1 (bz_ws (P j))) (fun w hw => by
    rcases List.mem_append.mp hw with h | h
    · simp only [List.mem_cons, List.not_mem_nil, or_false] at h
      rcases h with rfl | rfl | rfl
      · exact hl
      · exact hs
      · exact hiw
    · exact bz_ws_in hcw w h)) rfl rfl rfl ⟨hy1, hy2, hpar⟩ ⟨Nat.le_trans hfr hfR, Nat.le_trans hlo hlR⟩
  refine bz_goes (st0 := (as.reverse ++ rest).map (bz_cz ad)) (va_runS (As := as.map (bz_cz ad)) (rest := rest.map (bz_cz ad)) ⟨hx, hb, hml, hown, hts⟩ hM cw ⟨bz_blind, fun U hU hW => ⟨rfl, bz_pic F0' hP hD hS hU hW⟩⟩ rfl (by simpa using hn) hlv.1 (by simp) (lv_room (by rw [bz_cat_cz]; exact hcat)) hd ⟨hce, hsl⟩) hS hD hA (fun v σ' hq H1 locs1 hP1 hD1 hS1 => kk v σ' hq hnL H1 locs1 ls hP1 hD1 hS1 hlv)
theorem bz_cN {P : Nat → bz_M} {l : Launch} {own host : String} {bytes : ByteArray} {fr lo pc j n idx : Nat} (hj : bz_mok (P j)) (hd : decode bytes pc = .ok (.invokestatic idx, 3)) (hl : Cond.methodLinkNest own idx (P j).2.1 host ∈ bz_NB) (hs : Cond.static (P j).2.1 ∈ bz_TB) (hpar : (parseMethodDescriptor (P j).2.1.desc).map (fun d => d.parameters.length) = some n) (hfr : (P j).2.2.2.2.2.1 + 1 ≤ fr) (hlo : 8 + ((P j).2.2.2.1 + 11) + (P j).2.2.2.2.2.2.1 ≤ lo) : bz_cok P l own bytes fr lo pc j n 0 := by
  obtain ⟨hpn, how, hr, hcw, hiw, hy1, hy2⟩ := hj
  intro X p e R s m args below meth c Qf A ad ca D cells slots nL F hfR hlR L as rest σ Qc hn hm hcat hrc hsnd kk hnL H locs ls hP hD hS hlv
  have F0' := F
  obtain ⟨hx, hb, hml, hown, hts, hnw, hK, hA, hZ, hT, hce, hsl⟩ := F
  have hM := bz_met (ad := ad) (ca := ca) (D := D) (sz := H.size) hpn how hr hm hsnd
  have cw := va_cnB (R := R) (s := s) (args := args) (own := own) (host := host) (index := idx) (rm := bz_rm (P j)) (mc := 0) (ms := 0) n hts (bz_good (bz_ws_in hcw)) rfl rfl rfl (hnw _ hl) (hts _ hiw) ⟨hy1, hy2, hpar⟩ ⟨Nat.le_trans hfr hfR, Nat.le_trans hlo hlR⟩
  refine bz_goes (st0 := (as.reverse ++ rest).map (bz_cz ad)) (va_runSN (As := as.map (bz_cz ad)) (rest := rest.map (bz_cz ad)) ⟨hx, hb, hml, hown, hts⟩ hM ⟨cw, hts _ hs, trivial⟩ ⟨bz_blind, fun U hU hW => ⟨rfl, bz_pic F0' hP hD hS hU hW⟩⟩ rfl (by simpa using hn) hlv.1 (by simp) (lv_room (by rw [bz_cat_cz]; exact hcat)) hd ⟨hce, hsl⟩) hS hD hA (fun v σ' hq H1 locs1 hP1 hD1 hS1 => kk v σ' hq hnL H1 locs1 ls hP1 hD1 hS1 hlv)
theorem bz_cV {P : Nat → bz_M} {l : Launch} {own : String} {bytes : ByteArray} {fr lo pc j n idx ci N : Nat} {T : u_T} (hj : bz_mok (P j)) (hd : decode bytes pc = .ok (.invokevirtual idx, 3)) (hl : Cond.methodLink own idx (P j).2.1 ∈ bz_TB) (hi : Cond.instanceMethod (P j).2.1 ∈ bz_TB) (hsel : Cond.selects (P j).2.1.cls (P j).2.1 (P j).2.1 ∈ bz_TB) (hcl : vwCl[ci]? = some ((P j).2.1.cls, T, N)) (hpar : (parseMethodDescriptor (P j).2.1.desc).map (fun d => d.parameters.length) = some n) (hfr : (P j).2.2.2.2.2.1 + 1 ≤ fr) (hlo : 8 + ((P j).2.2.2.1 + 11) + (P j).2.2.2.2.2.2.1 ≤ lo) : bz_cok P l own bytes fr lo pc j (n + 1) (ci + 1) := by
  obtain ⟨hpn, how, hr, hcw, hiw, hy1, hy2⟩ := hj
  intro X p e R s m args below meth c Qf A ad ca D cells slots nL F hfR hlR L as rest σ Qc hn hm hcat hrc hsnd kk hnL H locs ls hP hD hS hlv
  have F0' := F
  obtain ⟨hx, hb, hml, hown, hts, hnw, hK, hA, hZ, hT, hce, hsl⟩ := F
  cases as with
  | nil => simp at hn
  | cons a0 as =>
    cases a0 with
    | ref o =>
      obtain ⟨ps, hsh⟩ := bz_isO_sp (show bz_isO o ci = true from hrc)
      have hM := bz_met (ad := ad) (ca := ca) (D := D) (sz := H.size) hpn how hr hm hsnd
      have cw := cwV (R := R) (s := s) (args := args) (own := own) (C := (P j).2.1.cls) (index := idx) (rm := bz_rm (P j)) (mc := 0) (ms := 0) n hts (bz_good (ws := wsV own idx (P j).2.1.cls (P j).2.1 (bz_ws (P j))) (fun w hw => by
        rcases List.mem_append.mp hw with h | h
        · simp only [List.mem_cons, List.not_mem_nil, or_false] at h
          rcases h with rfl | rfl | rfl | rfl
          · exact hl
          · exact hi
          · exact hsel
          · exact hiw
        · exact bz_ws_in hcw w h)) rfl rfl rfl ⟨rfl, hy1, hy2, hpar⟩ ⟨Nat.le_trans hfr hfR, Nat.le_trans hlo hlR⟩
      refine bz_goes (st0 := ((.ref o :: as).reverse ++ rest).map (bz_cz ad)) (va_runV (b := ad o) (As := as.map (bz_cz ad)) (rest := rest.map (bz_cz ad)) ⟨hx, hb, hml, hown, hts⟩ hM cw ⟨bz_blind, va_recv hK hP hcl (bz_W_at hsh), fun U hU hW => ⟨rfl, bz_pic F0' hP hD hS hU hW⟩⟩ rfl (by simpa using hn) hlv.1 (by simp [bz_cz]) (lv_room (by rw [bz_cat_cz]; exact hcat)) hd ⟨hce, hsl⟩) hS hD hA (fun v σ' hq H1 locs1 hP1 hD1 hS1 => kk v σ' hq hnL H1 locs1 ls hP1 hD1 hS1 hlv)
    | _ => cases hrc
/-- a row is what the bytes say -/
def bz_rw (P : Nat → bz_M) (l : Launch) (M : bz_M) (q : bz_E) : Prop := match q.2 with
  | .inl f => bz_ok M.1 M.2.2.1 q.1 f
  | .inr (.inl (j, n, vk)) => bz_cok P l M.1 M.2.2.1 M.2.2.2.2.2.1 M.2.2.2.2.2.2.1 q.1 j n vk
  | .inr (.inr i) => bz_rok M.2.2.1 M.2.2.2.2.1 q.1 i
theorem bz_lk_mem : ∀ {T : List bz_E} {pc : Nat} {x : bz_Op ⊕ (Nat × Nat × Nat) ⊕ Nat}, bz_lk T pc = some x → (pc, x) ∈ T := by
  intro T
  induction T with
  | nil => intro pc x h; cases h
  | cons q r ih =>
    intro pc x h
    simp only [bz_lk] at h
    cases hb : Nat.beq q.1 pc with
    | true =>
      rw [hb] at h
      simp only [cond_true, Option.some.injEq] at h
      have := Nat.eq_of_beq_eq_true hb
      subst this; subst h
      exact List.mem_cons_self
    | false =>
      rw [hb] at h
      exact List.mem_cons_of_mem _ (ih h)
theorem bz_le_len : ∀ {L' L : List (Option Value)}, bz_le L' L → L'.length = L.length
  | [], [], _ => rfl
  | none :: a, y :: b, h => congrArg (· + 1) (bz_le_len (L' := a) (L := b) h)
  | some x :: a, some y :: b, h => congrArg (· + 1) (bz_le_len (L' := a) (L := b) h.2)
  | some x :: a, none :: b, hl => hl.elim
  | none :: a, [], hl => hl.elim
  | some x :: a, [], hl => hl.elim
  | [], y :: b, hl => hl.elim
/-- THE KIT'S MACHINE FOLLOWS -/
theorem bz_follow {P : Nat → bz_M} {l : Launch} (hall : ∀ k, ∀ q ∈ (P k).2.2.2.2.2.2.2, bz_rw P l (P k) q) (X : bz_X) : bz_Cl P X (bz_snd P l X) := by
  refine ⟨?_, ?_, ?_, ?_, ?_⟩
  · intro k Q a g b h hg w p e R s m args below meth c Qf A ad ca D cells slots nL F hfR hlR hnl hH
    obtain ⟨pc, L, st, σ⟩ := a
    simp only [bz_st1] at h
    split at h
    · rename_i f hlk
      exact hall k _ (bz_lk_mem hlk) X p l e R s m args below meth c Qf A ad ca D cells slots nL F L st σ g b h hg (w p e R s m args below meth c Qf A ad ca D cells slots nL F hfR hlR hnl hH)
    · cases h
  · intro k Q L L' pc st σ hle w p e R s m args below meth c Qf A ad ca D cells slots nL F hfR hlR hnl hH hn H locs ls hP hD hS hl
    refine w p e R s m args below meth c Qf A ad ca D cells slots nL F hfR hlR hnl hH ((bz_le_len hle).trans hn) H locs ls hP hD hS (bz_lv_mono hl ?_)
    rintro ⟨j, w⟩ hq
    obtain ⟨v, hv, hw⟩ := bz_lv_mem.mp hq
    exact bz_lv_mem.mpr ⟨v, bz_le_mem hle j v hv, hw⟩
  · intro k Q pc L as rest σ j n vk Qc hlk hn hm hcat hrc w kk p e R s m args below meth c Qf A ad ca D cells slots nL F hfR hlR hnl hH
    exact hall k _ (bz_lk_mem hlk) X p e R s m args below meth c Qf A ad ca D cells slots nL F hfR hlR L as rest σ Qc hn hm hcat hrc w (fun v σ' hq => kk v σ' hq p e R s m args below meth c Qf A ad ca D cells slots nL F hfR hlR hnl hH)
  · intro k Q pc L st σ j v hlk hv hg hQ p e R s m args below meth c Qf A ad ca D cells slots nL F hfR hlR hnl hH hn H locs ls hP hD hS hl
    exact hH pc j st v σ hlk hv hg hQ H locs ls hP hD hS
  · intro k Q Q' a hQ w p e R s m args below meth c Qf A ad ca D cells slots nL F hfR hlR hnl hH
    exact w p e R s m args below meth c Qf A ad ca D cells slots nL F hfR hlR hnl (fun pc j st v σ h1 h2 h3 h4 => hH pc j st v σ h1 h2 h3 (hQ v σ h4))
end
section
/-! THE PROGRAM of the small machine: printed by wip/gen/mkprog.py out of the printed claim -/
abbrev bz_iadd : bz_Op := bz_ii (fun x y => x + y)
abbrev bz_isub : bz_Op := bz_ii (fun x y => x - y)
abbrev bz_imul : bz_Op := bz_ii (fun x y => x * y)
abbrev bz_iand : bz_Op := bz_ii (fun x y => x &&& y)
abbrev bz_ixor : bz_Op := bz_ii (fun x y => x ^^^ y)
abbrev bz_ladd : bz_Op := bz_ll (fun x y => x + y)
abbrev bz_lsub : bz_Op := bz_ll (fun x y => x - y)
abbrev bz_lmul : bz_Op := bz_ll (fun x y => x * y)
abbrev bz_land : bz_Op := bz_ll (fun x y => x &&& y)
abbrev bz_lor : bz_Op := bz_ll (fun x y => x ||| y)
abbrev bz_idiv : bz_Op := bz_ig (fun x y => x / y)
abbrev bz_irem : bz_Op := bz_ig (fun x y => x % y)
abbrev bz_ldiv : bz_Op := bz_lg (fun x y => x / y)
abbrev bz_lrem : bz_Op := bz_lg (fun x y => x % y)
abbrev bz_lushr : bz_Op := bz_li (fun x y => (x.toUInt64 >>> (y.toInt64.toUInt64 &&& Int64.toUInt64 63)).toInt64)
abbrev bz_lshl : bz_Op := bz_li (fun x y => x <<< (y.toInt64 &&& 63))
abbrev mX0_isLost : Nat := 0
abbrev mX0_winsAtOnce : Nat := 1
abbrev mX0_learn : Nat := 2
abbrev mX0_winningMove : Nat := 3
abbrev mX6_copy : Nat := 4
abbrev mX4_copy : Nat := 5
abbrev mX1_keep : Nat := 6
abbrev mX2_choose : Nat := 7
abbrev mX2_power : Nat := 8
abbrev mX2_winning : Nat := 9
abbrev mX2_games : Nat := 10
abbrev mX2_commonDivisor : Nat := 11
abbrev mX3_add : Nat := 12
abbrev mX3_empty : Nat := 13
abbrev mX10_isWithin : Nat := 14
abbrev mX3_signAt : Nat := 15
abbrev mX3_isLetter : Nat := 16
abbrev mX3_canStand : Nat := 17
abbrev mX3_isActAt : Nat := 18
abbrev mX3_firstFault : Nat := 19
abbrev mX3_actKind : Nat := 20
abbrev mX3_actLength : Nat := 21
abbrev mX4_add : Nat := 22
abbrev mJ9_floorMod_7cf53 : Nat := 23
abbrev mX7_cellBehind : Nat := 24
abbrev mX4_allFit : Nat := 25
abbrev mX5_begin : Nat := 26
abbrev mX10_turned : Nat := 27
abbrev mX10_next : Nat := 28
abbrev mX6_lyingOn : Nat := 29
abbrev mX5_touch : Nat := 30
abbrev mX10_isPocket : Nat := 31
abbrev mX5_run : Nat := 32
abbrev mX5_pointsMore : Nat := 33
abbrev mX5_foulsMore : Nat := 34
abbrev mX10_isBall : Nat := 35
abbrev mX6_isDown : Nat := 36
abbrev mX6_cellOrNone : Nat := 37
abbrev mX6_howManyDown : Nat := 38
abbrev mX6_reasonAgainst : Nat := 39
abbrev mX6_driftOne : Nat := 40
abbrev mX6_drift : Nat := 41
abbrev mX10_bit : Nat := 42
abbrev mX7_walk : Nat := 43
abbrev mX8_begin : Nat := 44
abbrev mX8_play : Nat := 45
abbrev mX8_tryAct : Nat := 46
abbrev mX8_runText : Nat := 47
abbrev mX8_runSeason : Nat := 48
abbrev mX8_forceToTouch : Nat := 49
abbrev mX10_isCell : Nat := 50
abbrev mX10_isPlace : Nat := 51
abbrev mX9_gather : Nat := 52
abbrev mX9_countLeft : Nat := 53
abbrev mJ9_max_7cf53 : Nat := 54
abbrev mX9_mostLeftAt : Nat := 55
abbrev mX9_chooseStep : Nat := 56
abbrev mX10_ball : Nat := 57
abbrev mX10_score : Nat := 58
abbrev mX10_say : Nat := 59
abbrev mX10_wipe : Nat := 60
abbrev mX10_fault : Nat := 61
abbrev mX10_tryText : Nat := 62
abbrev mX10_judge : Nat := 63
abbrev mX10_behind : Nat := 64
abbrev mX10_table : Nat := 65
abbrev mX10_candour : Nat := 66
abbrev mX10_done : Nat := 67
abbrev mX10_hint : Nat := 68
abbrev mJ13_bitCount_95d88 : Nat := 69
abbrev mX10_alone : Nat := 70
abbrev mX10_reachOf : Nat := 71
abbrev mX10_firstWayInto : Nat := 72
abbrev mX10_withAllThatReach : Nat := 73
abbrev mX10_strokes : Nat := 74
abbrev mX10_seen : Nat := 75
abbrev mX10_forget : Nat := 76
abbrev mX10_sent : Nat := 77
abbrev mX10_ask : Nat := 78
abbrev mX10_chalk : Nat := 79
abbrev mJ9_max_f86c9 : Nat := 80
abbrev mX10_match : Nat := 81
abbrev mX10_season : Nat := 82
abbrev mX10_image : Nat := 83
abbrev mX10_restore : Nat := 84
abbrev mX10_told : Nat := 85
abbrev mX11_in : Nat := 86
abbrev mX11_isBall : Nat := 87
abbrev mX11_isCell : Nat := 88
abbrev mX11_isPocket : Nat := 89
abbrev mX11_isPlace : Nat := 90
abbrev mX11_home : Nat := 91
abbrev mX11_downwards : Nat := 92
abbrev mX11_across : Nat := 93
abbrev mX11_turned : Nat := 94
abbrev mX11_ahead : Nat := 95
abbrev mX11_ballOn : Nat := 96
abbrev mX11_ball : Nat := 97
abbrev mX11_score : Nat := 98
abbrev mX11_say : Nat := 99
abbrev mX11_wipe : Nat := 100
abbrev mX11_close : Nat := 101
abbrev mX11_begin : Nat := 102
abbrev mX11_deed : Nat := 103
abbrev mX11_force : Nat := 104
abbrev mX11_readOn : Nat := 105
abbrev mX11_fault : Nat := 106
abbrev mX11_touch : Nat := 107
abbrev mX11_step : Nat := 108
abbrev mX11_send : Nat := 109
abbrev mX11_stroke : Nat := 110
abbrev mX11_columnOf : Nat := 111
abbrev mX11_drift : Nat := 112
abbrev mX11_nap : Nat := 113
abbrev mX11_whyNot : Nat := 114
abbrev mX11_happen : Nat := 115
abbrev mX11_keepNow : Nat := 116
abbrev mX11_back : Nat := 117
abbrev mX11_goCrises : Nat := 118
abbrev mX11_refusal : Nat := 119
abbrev mX11_judge : Nat := 120
abbrev mX11_behind : Nat := 121
abbrev mX11_downMany : Nat := 122
abbrev mX11_table : Nat := 123
abbrev mX11_candour : Nat := 124
abbrev mX11_done : Nat := 125
abbrev mX11_stepsBy : Nat := 126
abbrev mX11_hint : Nat := 127
abbrev mX11_next : Nat := 128
abbrev mX11_behindSteps : Nat := 129
abbrev mX11_metMany : Nat := 130
abbrev mX11_stepsBack : Nat := 131
abbrev mX11_alone : Nat := 132
abbrev mX11_leadsTo : Nat := 133
abbrev mX11_wayTo : Nat := 134
abbrev mX11_findFar : Nat := 135
abbrev mX11_strokes : Nat := 136
abbrev mX11_seen : Nat := 137
abbrev mX11_forget : Nat := 138
abbrev mX11_isFit : Nat := 139
abbrev mX11_findFits : Nat := 140
abbrev mX11_sent : Nat := 141
abbrev mX11_mostNow : Nat := 142
abbrev mX11_ask : Nat := 143
abbrev mX11_digit : Nat := 144
abbrev mX11_tenTo : Nat := 145
abbrev mX11_leastTake : Nat := 146
abbrev mX11_chalk : Nat := 147
abbrev mX11_lowest : Nat := 148
abbrev mX11_power : Nat := 149
abbrev mX11_findChance : Nat := 150
abbrev mX11_match : Nat := 151
abbrev mX11_actBy : Nat := 152
abbrev mX11_season : Nat := 153
abbrev mX11_pass : Nat := 154
abbrev mX11_passRow : Nat := 155
abbrev mX11_passAll : Nat := 156
abbrev mX11_image : Nat := 157
abbrev mX11_restore : Nat := 158
abbrev mX11_told : Nat := 159
abbrev mL_law : Nat := 160
def bt_X0_isLost : List bz_E := (0, .inl (bz_iload 1 1)) :: (1, .inl (bz_push (.int 10) 2)) :: (3, .inl (bz_irem)) :: (4, .inl (bz_istore 3 1)) :: (5, .inl (bz_iload 1 1)) :: (6, .inl (bz_push (.int 10) 2)) ::
  (8, .inl (bz_idiv)) :: (9, .inl (bz_push (.int 100) 2)) :: (11, .inl (bz_irem)) :: (12, .inl (bz_istore 4 2)) :: (14, .inl (bz_iload 2 1)) :: (15, .inl (bz_if_eq 35)) ::
  (18, .inl (bz_aload 0 1)) :: (19, .inl (bz_getR 0 0)) :: (22, .inl (bz_iload 4 2)) :: (24, .inl (bz_iald)) :: (25, .inl (bz_iload 3 1)) :: (26, .inl (bz_ic_ne 33)) ::
  (29, .inl (bz_push (.int 1) 1)) :: (30, .inl (bz_goto 34)) :: (33, .inl (bz_push (.int 0) 1)) :: (34, .inr (.inr 3)) :: (35, .inl (bz_iload 4 2)) :: (37, .inl (bz_push (.int 10) 2)) ::
  (39, .inl (bz_idiv)) :: (40, .inl (bz_iload 4 2)) :: (42, .inl (bz_push (.int 10) 2)) :: (44, .inl (bz_irem)) :: (45, .inl (bz_ixor)) :: (46, .inl (bz_iload 3 1)) ::
  (47, .inl (bz_ixor)) :: (48, .inl (bz_if_ne 55)) :: (51, .inl (bz_push (.int 1) 1)) :: (52, .inl (bz_goto 56)) :: (55, .inl (bz_push (.int 0) 1)) :: (56, .inr (.inr 3)) :: []
def bm_X0_isLost : bz_M := (RX0, yX0_isLost, cX0_isLost, 5, (some .boolean), 0, 0, bt_X0_isLost)
def bt_X0_winsAtOnce : List bz_E := (0, .inl (bz_push (.int 10) 2)) :: (2, .inl (bz_iload 1 1)) :: (3, .inl (bz_imul)) :: (4, .inl (bz_iload 2 1)) :: (5, .inl (bz_iadd)) :: (6, .inl (bz_istore 3 1)) ::
  (7, .inl (bz_iload 3 1)) :: (8, .inl (bz_if_eq 22)) :: (11, .inl (bz_aload 0 1)) :: (12, .inl (bz_iload 3 1)) :: (13, .inl (bz_push (.int 0) 1)) :: (14, .inr (.inl (mX0_isLost, 3, 1))) ::
  (17, .inl (bz_if_eq 22)) :: (20, .inl (bz_push (.int 1) 1)) :: (21, .inr (.inr 3)) :: (22, .inl (bz_iload 1 1)) :: (23, .inl (bz_push (.int 10) 2)) :: (25, .inl (bz_idiv)) ::
  (26, .inl (bz_istore 4 2)) :: (28, .inl (bz_iload 1 1)) :: (29, .inl (bz_push (.int 10) 2)) :: (31, .inl (bz_irem)) :: (32, .inl (bz_istore 5 2)) :: (34, .inl (bz_push (.int 0) 1)) ::
  (35, .inl (bz_istore 6 2)) :: (37, .inl (bz_iload 6 2)) :: (39, .inl (bz_iload 4 2)) :: (41, .inl (bz_ic_ge 69)) :: (44, .inl (bz_aload 0 1)) :: (45, .inl (bz_getR 0 0)) ::
  (48, .inl (bz_push (.int 10) 2)) :: (50, .inl (bz_iload 6 2)) :: (52, .inl (bz_imul)) :: (53, .inl (bz_iload 5 2)) :: (55, .inl (bz_iadd)) :: (56, .inl (bz_iald)) ::
  (57, .inl (bz_iload 2 1)) :: (58, .inl (bz_ic_ne 63)) :: (61, .inl (bz_push (.int 1) 1)) :: (62, .inr (.inr 3)) :: (63, .inl (bz_iinc 6 1)) :: (66, .inl (bz_goto 37)) ::
  (69, .inl (bz_push (.int 0) 1)) :: (70, .inl (bz_istore 6 2)) :: (72, .inl (bz_iload 6 2)) :: (74, .inl (bz_iload 5 2)) :: (76, .inl (bz_ic_ge 104)) :: (79, .inl (bz_aload 0 1)) ::
  (80, .inl (bz_getR 0 0)) :: (83, .inl (bz_push (.int 10) 2)) :: (85, .inl (bz_iload 4 2)) :: (87, .inl (bz_imul)) :: (88, .inl (bz_iload 6 2)) :: (90, .inl (bz_iadd)) ::
  (91, .inl (bz_iald)) :: (92, .inl (bz_iload 2 1)) :: (93, .inl (bz_ic_ne 98)) :: (96, .inl (bz_push (.int 1) 1)) :: (97, .inr (.inr 3)) :: (98, .inl (bz_iinc 6 1)) ::
  (101, .inl (bz_goto 72)) :: (104, .inl (bz_push (.int 0) 1)) :: (105, .inr (.inr 3)) :: []
def bm_X0_winsAtOnce : bz_M := (RX0, yX0_winsAtOnce, cX0_winsAtOnce, 7, (some .boolean), 1, 24, bt_X0_winsAtOnce)
def bt_X0_learn : List bz_E := (0, .inl (bz_push (.int 0) 1)) :: (1, .inl (bz_istore 1 1)) :: (2, .inl (bz_iload 1 1)) :: (3, .inl (bz_push (.int 100) 2)) :: (5, .inl (bz_ic_ge 58)) :: (8, .inl (bz_aload 0 1)) ::
  (9, .inl (bz_getI 0 1)) :: (12, .inl (bz_if_ne 58)) :: (15, .inl (bz_aload 0 1)) :: (16, .inl (bz_getR 0 0)) :: (19, .inl (bz_iload 1 1)) :: (20, .inl (bz_push (.int (-6)) 2)) ::
  (22, .inl (bz_iast)) :: (23, .inl (bz_push (.int 9) 2)) :: (25, .inl (bz_istore 2 1)) :: (26, .inl (bz_iload 2 1)) :: (27, .inl (bz_if_lt 52)) :: (30, .inl (bz_aload 0 1)) ::
  (31, .inl (bz_iload 1 1)) :: (32, .inl (bz_iload 2 1)) :: (33, .inr (.inl (mX0_winsAtOnce, 3, 1))) :: (36, .inl (bz_if_ne 46)) :: (39, .inl (bz_aload 0 1)) :: (40, .inl (bz_getR 0 0)) ::
  (43, .inl (bz_iload 1 1)) :: (44, .inl (bz_iload 2 1)) :: (45, .inl (bz_iast)) :: (46, .inl (bz_iinc 2 (-1))) :: (49, .inl (bz_goto 26)) :: (52, .inl (bz_iinc 1 1)) ::
  (55, .inl (bz_goto 2)) :: (58, .inl (bz_aload 0 1)) :: (59, .inl (bz_push (.int 1) 1)) :: (60, .inl (bz_putZ 0 1)) :: (63, .inr (.inr 0)) :: []
def bm_X0_learn : bz_M := (RX0, yX0_learn, cX0_learn, 3, none, 2, 50, bt_X0_learn)
def bt_X0_winningMove : List bz_E := (0, .inl (bz_aload 0 1)) :: (1, .inr (.inl (mX0_learn, 1, 1))) :: (4, .inl (bz_push (.int 0) 1)) :: (5, .inl (bz_istore 3 1)) :: (6, .inl (bz_iload 3 1)) :: (7, .inl (bz_push (.int 3) 1)) ::
  (8, .inl (bz_ic_ge 87)) :: (11, .inl (bz_iload 3 1)) :: (12, .inl (bz_if_ne 20)) :: (15, .inl (bz_push (.int 100) 2)) :: (17, .inl (bz_goto 31)) :: (20, .inl (bz_iload 3 1)) ::
  (21, .inl (bz_push (.int 1) 1)) :: (22, .inl (bz_ic_ne 30)) :: (25, .inl (bz_push (.int 10) 2)) :: (27, .inl (bz_goto 31)) :: (30, .inl (bz_push (.int 1) 1)) :: (31, .inl (bz_istore 4 2)) ::
  (33, .inl (bz_iload 1 1)) :: (34, .inl (bz_iload 4 2)) :: (36, .inl (bz_idiv)) :: (37, .inl (bz_push (.int 10) 2)) :: (39, .inl (bz_irem)) :: (40, .inl (bz_istore 5 2)) ::
  (42, .inl (bz_push (.int 1) 1)) :: (43, .inl (bz_istore 6 2)) :: (45, .inl (bz_iload 6 2)) :: (47, .inl (bz_iload 5 2)) :: (49, .inl (bz_ic_gt 81)) :: (52, .inl (bz_aload 0 1)) ::
  (53, .inl (bz_iload 1 1)) :: (54, .inl (bz_iload 6 2)) :: (56, .inl (bz_iload 4 2)) :: (58, .inl (bz_imul)) :: (59, .inl (bz_isub)) :: (60, .inl (bz_iload 2 1)) ::
  (61, .inr (.inl (mX0_isLost, 3, 1))) :: (64, .inl (bz_if_eq 75)) :: (67, .inl (bz_push (.int 10) 2)) :: (69, .inl (bz_iload 3 1)) :: (70, .inl (bz_imul)) :: (71, .inl (bz_iload 6 2)) ::
  (73, .inl (bz_iadd)) :: (74, .inr (.inr 1)) :: (75, .inl (bz_iinc 6 1)) :: (78, .inl (bz_goto 45)) :: (81, .inl (bz_iinc 3 1)) :: (84, .inl (bz_goto 6)) ::
  (87, .inl (bz_iload 2 1)) :: (88, .inl (bz_if_eq 109)) :: (91, .inl (bz_iload 1 1)) :: (92, .inl (bz_if_eq 109)) :: (95, .inl (bz_aload 0 1)) :: (96, .inl (bz_iload 1 1)) ::
  (97, .inl (bz_push (.int 0) 1)) :: (98, .inr (.inl (mX0_isLost, 3, 1))) :: (101, .inl (bz_if_eq 109)) :: (104, .inl (bz_push (.int 99) 2)) :: (106, .inl (bz_goto 111)) :: (109, .inl (bz_push (.int (-6)) 2)) ::
  (111, .inr (.inr 1)) :: []
def bm_X0_winningMove : bz_M := (RX0, yX0_winningMove, cX0_winningMove, 7, (some .int), 3, 72, bt_X0_winningMove)
def bt_X6_copy : List bz_E := (0, .inl (bz_push (.int 0) 1)) :: (1, .inl (bz_istore 2 1)) :: (2, .inl (bz_iload 2 1)) :: (3, .inl (bz_push (.int 3) 1)) :: (4, .inl (bz_ic_ge 25)) :: (7, .inl (bz_aload 0 1)) ::
  (8, .inl (bz_getR 5 0)) :: (11, .inl (bz_iload 2 1)) :: (12, .inl (bz_aload 1 1)) :: (13, .inl (bz_getR 5 0)) :: (16, .inl (bz_iload 2 1)) :: (17, .inl (bz_iald)) ::
  (18, .inl (bz_iast)) :: (19, .inl (bz_iinc 2 1)) :: (22, .inl (bz_goto 2)) :: (25, .inl (bz_aload 0 1)) :: (26, .inl (bz_aload 1 1)) :: (27, .inl (bz_getI 5 1)) ::
  (30, .inl (bz_putI 5 1)) :: (33, .inl (bz_aload 0 1)) :: (34, .inl (bz_aload 1 1)) :: (35, .inl (bz_getI 5 2)) :: (38, .inl (bz_putI 5 2)) :: (41, .inl (bz_aload 0 1)) ::
  (42, .inl (bz_aload 1 1)) :: (43, .inl (bz_getI 5 3)) :: (46, .inl (bz_putI 5 3)) :: (49, .inr (.inr 0)) :: []
def bm_X6_copy : bz_M := (RX6, yX6_copy, cX6_copy, 3, none, 0, 0, bt_X6_copy)
def bt_X4_copy : List bz_E := (0, .inl (bz_push (.int 0) 1)) :: (1, .inl (bz_istore 2 1)) :: (2, .inl (bz_iload 2 1)) :: (3, .inl (bz_push (.int 8) 2)) :: (5, .inl (bz_ic_ge 38)) :: (8, .inl (bz_aload 0 1)) ::
  (9, .inl (bz_getR 3 0)) :: (12, .inl (bz_iload 2 1)) :: (13, .inl (bz_aload 1 1)) :: (14, .inl (bz_getR 3 0)) :: (17, .inl (bz_iload 2 1)) :: (18, .inl (bz_iald)) ::
  (19, .inl (bz_iast)) :: (20, .inl (bz_aload 0 1)) :: (21, .inl (bz_getR 3 1)) :: (24, .inl (bz_iload 2 1)) :: (25, .inl (bz_aload 1 1)) :: (26, .inl (bz_getR 3 1)) ::
  (29, .inl (bz_iload 2 1)) :: (30, .inl (bz_iald)) :: (31, .inl (bz_iast)) :: (32, .inl (bz_iinc 2 1)) :: (35, .inl (bz_goto 2)) :: (38, .inl (bz_aload 0 1)) ::
  (39, .inl (bz_aload 1 1)) :: (40, .inl (bz_getI 3 2)) :: (43, .inl (bz_putI 3 2)) :: (46, .inr (.inr 0)) :: []
def bm_X4_copy : bz_M := (RX4, yX4_copy, cX4_copy, 3, none, 0, 0, bt_X4_copy)
def bt_X1_keep : List bz_E := (0, .inl (bz_aload 0 1)) :: (1, .inl (bz_getR 1 0)) :: (4, .inl (bz_aload 1 1)) :: (5, .inr (.inl (mX6_copy, 2, 6))) :: (8, .inl (bz_aload 0 1)) :: (9, .inl (bz_getR 1 1)) ::
  (12, .inl (bz_aload 2 1)) :: (13, .inr (.inl (mX4_copy, 2, 4))) :: (16, .inl (bz_aload 0 1)) :: (17, .inl (bz_push (.int 1) 1)) :: (18, .inl (bz_putZ 1 2)) :: (21, .inr (.inr 0)) :: []
def bm_X1_keep : bz_M := (RX1, yX1_keep, cX1_keep, 3, none, 1, 22, bt_X1_keep)
def bt_X2_choose : List bz_E := (0, .inl (bz_push (.long 1) 1)) :: (1, .inl (bz_lstore 2 1)) :: (2, .inl (bz_push (.int 1) 1)) :: (3, .inl (bz_istore 4 2)) :: (5, .inl (bz_iload 4 2)) :: (7, .inl (bz_iload 1 1)) ::
  (8, .inl (bz_ic_gt 31)) :: (11, .inl (bz_lload 2 1)) :: (12, .inl (bz_iload 0 1)) :: (13, .inl (bz_iload 1 1)) :: (14, .inl (bz_isub)) :: (15, .inl (bz_iload 4 2)) ::
  (17, .inl (bz_iadd)) :: (18, .inl (bz_i2l)) :: (19, .inl (bz_lmul)) :: (20, .inl (bz_iload 4 2)) :: (22, .inl (bz_i2l)) :: (23, .inl (bz_ldiv)) ::
  (24, .inl (bz_lstore 2 1)) :: (25, .inl (bz_iinc 4 1)) :: (28, .inl (bz_goto 5)) :: (31, .inl (bz_lload 2 1)) :: (32, .inr (.inr 2)) :: []
def bm_X2_choose : bz_M := (RX2, yX2_choose, cX2_choose, 5, (some .long), 0, 0, bt_X2_choose)
def bt_X2_power : List bz_E := (0, .inl (bz_push (.long 1) 1)) :: (1, .inl (bz_lstore 2 1)) :: (2, .inl (bz_push (.int 0) 1)) :: (3, .inl (bz_istore 4 2)) :: (5, .inl (bz_iload 4 2)) :: (7, .inl (bz_iload 1 1)) ::
  (8, .inl (bz_ic_ge 22)) :: (11, .inl (bz_lload 2 1)) :: (12, .inl (bz_iload 0 1)) :: (13, .inl (bz_i2l)) :: (14, .inl (bz_lmul)) :: (15, .inl (bz_lstore 2 1)) ::
  (16, .inl (bz_iinc 4 1)) :: (19, .inl (bz_goto 5)) :: (22, .inl (bz_lload 2 1)) :: (23, .inr (.inr 2)) :: []
def bm_X2_power : bz_M := (RX2, yX2_power, cX2_power, 5, (some .long), 0, 0, bt_X2_power)
def bt_X2_winning : List bz_E := (0, .inl (bz_push (.long 0) 1)) :: (1, .inl (bz_lstore 3 1)) :: (2, .inl (bz_push (.int 0) 1)) :: (3, .inl (bz_istore 5 2)) :: (5, .inl (bz_iload 5 2)) :: (7, .inl (bz_iload 1 1)) ::
  (8, .inl (bz_ic_ge 59)) :: (11, .inl (bz_lload 3 1)) :: (12, .inl (bz_iload 0 1)) :: (13, .inl (bz_push (.int 1) 1)) :: (14, .inl (bz_isub)) :: (15, .inl (bz_iload 5 2)) ::
  (17, .inl (bz_iadd)) :: (18, .inl (bz_iload 5 2)) :: (20, .inr (.inl (mX2_choose, 2, 0))) :: (23, .inl (bz_iload 2 1)) :: (24, .inl (bz_iload 0 1)) :: (25, .inr (.inl (mX2_power, 2, 0))) ::
  (28, .inl (bz_lmul)) :: (29, .inl (bz_push (.int 10) 2)) :: (31, .inl (bz_iload 2 1)) :: (32, .inl (bz_isub)) :: (33, .inl (bz_iload 5 2)) :: (35, .inr (.inl (mX2_power, 2, 0))) ::
  (38, .inl (bz_lmul)) :: (39, .inl (bz_push (.int 10) 2)) :: (41, .inl (bz_iload 1 1)) :: (42, .inl (bz_push (.int 1) 1)) :: (43, .inl (bz_isub)) :: (44, .inl (bz_iload 5 2)) ::
  (46, .inl (bz_isub)) :: (47, .inr (.inl (mX2_power, 2, 0))) :: (50, .inl (bz_lmul)) :: (51, .inl (bz_ladd)) :: (52, .inl (bz_lstore 3 1)) :: (53, .inl (bz_iinc 5 1)) ::
  (56, .inl (bz_goto 5)) :: (59, .inl (bz_lload 3 1)) :: (60, .inr (.inr 2)) :: []
def bm_X2_winning : bz_M := (RX2, yX2_winning, cX2_winning, 6, (some .long), 1, 24, bt_X2_winning)
def bt_X2_games : List bz_E := (0, .inl (bz_push (.long 0) 1)) :: (1, .inl (bz_lstore 3 1)) :: (2, .inl (bz_push (.int 0) 1)) :: (3, .inl (bz_istore 5 2)) :: (5, .inl (bz_iload 5 2)) :: (7, .inl (bz_iload 0 1)) ::
  (8, .inl (bz_ic_ge 79)) :: (11, .inl (bz_push (.int 0) 1)) :: (12, .inl (bz_istore 6 2)) :: (14, .inl (bz_iload 6 2)) :: (16, .inl (bz_iload 1 1)) :: (17, .inl (bz_ic_ge 73)) ::
  (20, .inl (bz_lload 3 1)) :: (21, .inl (bz_iload 5 2)) :: (23, .inl (bz_iload 6 2)) :: (25, .inl (bz_iadd)) :: (26, .inl (bz_iload 6 2)) :: (28, .inr (.inl (mX2_choose, 2, 0))) ::
  (31, .inl (bz_iload 2 1)) :: (32, .inl (bz_iload 5 2)) :: (34, .inr (.inl (mX2_power, 2, 0))) :: (37, .inl (bz_lmul)) :: (38, .inl (bz_push (.int 10) 2)) :: (40, .inl (bz_iload 2 1)) ::
  (41, .inl (bz_isub)) :: (42, .inl (bz_iload 6 2)) :: (44, .inr (.inl (mX2_power, 2, 0))) :: (47, .inl (bz_lmul)) :: (48, .inl (bz_push (.int 10) 2)) :: (50, .inl (bz_iload 0 1)) ::
  (51, .inl (bz_iload 1 1)) :: (52, .inl (bz_iadd)) :: (53, .inl (bz_push (.int 1) 1)) :: (54, .inl (bz_isub)) :: (55, .inl (bz_iload 5 2)) :: (57, .inl (bz_isub)) ::
  (58, .inl (bz_iload 6 2)) :: (60, .inl (bz_isub)) :: (61, .inr (.inl (mX2_power, 2, 0))) :: (64, .inl (bz_lmul)) :: (65, .inl (bz_ladd)) :: (66, .inl (bz_lstore 3 1)) ::
  (67, .inl (bz_iinc 6 1)) :: (70, .inl (bz_goto 14)) :: (73, .inl (bz_iinc 5 1)) :: (76, .inl (bz_goto 5)) :: (79, .inl (bz_lload 3 1)) :: (80, .inr (.inr 2)) :: []
def bm_X2_games : bz_M := (RX2, yX2_games, cX2_games, 7, (some .long), 1, 24, bt_X2_games)
def bt_X2_commonDivisor : List bz_E := (0, .inl (bz_lload 0 1)) :: (1, .inl (bz_lstore 4 2)) :: (3, .inl (bz_lload 2 1)) :: (4, .inl (bz_lstore 6 2)) :: (6, .inl (bz_push (.int 0) 1)) :: (7, .inl (bz_istore 8 2)) ::
  (9, .inl (bz_iload 8 2)) :: (11, .inl (bz_push (.int 1000) 3)) :: (14, .inl (bz_ic_ge 45)) :: (17, .inl (bz_lload 6 2)) :: (19, .inl (bz_push (.long 0) 1)) :: (20, .inl (bz_lcmp)) ::
  (21, .inl (bz_if_eq 45)) :: (24, .inl (bz_lload 4 2)) :: (26, .inl (bz_lload 6 2)) :: (28, .inl (bz_lrem)) :: (29, .inl (bz_lstore 9 2)) :: (31, .inl (bz_lload 6 2)) ::
  (33, .inl (bz_lstore 4 2)) :: (35, .inl (bz_lload 9 2)) :: (37, .inl (bz_lstore 6 2)) :: (39, .inl (bz_iinc 8 1)) :: (42, .inl (bz_goto 9)) :: (45, .inl (bz_lload 4 2)) ::
  (47, .inr (.inr 2)) :: []
def bm_X2_commonDivisor : bz_M := (RX2, yX2_commonDivisor, cX2_commonDivisor, 11, (some .long), 0, 0, bt_X2_commonDivisor)
def bt_X3_add : List bz_E := (0, .inl (bz_aload 0 1)) :: (1, .inl (bz_getI 2 1)) :: (4, .inl (bz_push (.int 60) 2)) :: (6, .inl (bz_ic_lt 11)) :: (9, .inl (bz_push (.int 0) 1)) :: (10, .inr (.inr 3)) ::
  (11, .inl (bz_aload 0 1)) :: (12, .inl (bz_getR 2 0)) :: (15, .inl (bz_aload 0 1)) :: (16, .inl (bz_getI 2 1)) :: (19, .inl (bz_iload 1 1)) :: (20, .inl (bz_iast)) ::
  (21, .inl (bz_aload 0 1)) :: (22, .inl (bz_dup)) :: (23, .inl (bz_getI 2 1)) :: (26, .inl (bz_push (.int 1) 1)) :: (27, .inl (bz_iadd)) :: (28, .inl (bz_putI 2 1)) ::
  (31, .inl (bz_push (.int 1) 1)) :: (32, .inr (.inr 3)) :: []
def bm_X3_add : bz_M := (RX3, yX3_add, cX3_add, 2, (some .boolean), 0, 0, bt_X3_add)
def bt_X3_empty : List bz_E := (0, .inl (bz_aload 0 1)) :: (1, .inl (bz_getI 2 1)) :: (4, .inl (bz_istore 1 1)) :: (5, .inl (bz_aload 0 1)) :: (6, .inl (bz_push (.int 0) 1)) :: (7, .inl (bz_putI 2 1)) ::
  (10, .inl (bz_iload 1 1)) :: (11, .inr (.inr 1)) :: []
def bm_X3_empty : bz_M := (RX3, yX3_empty, cX3_empty, 2, (some .int), 0, 0, bt_X3_empty)
def bt_X10_isWithin : List bz_E := (0, .inl (bz_iload 0 1)) :: (1, .inl (bz_iload 1 1)) :: (2, .inl (bz_ic_lt 14)) :: (5, .inl (bz_iload 0 1)) :: (6, .inl (bz_iload 2 1)) :: (7, .inl (bz_ic_gt 14)) ::
  (10, .inl (bz_push (.int 1) 1)) :: (11, .inl (bz_goto 15)) :: (14, .inl (bz_push (.int 0) 1)) :: (15, .inr (.inr 3)) :: []
def bm_X10_isWithin : bz_M := (RX10, yX10_isWithin, cX10_isWithin, 3, (some .boolean), 0, 0, bt_X10_isWithin)
def bt_X3_signAt : List bz_E := (0, .inl (bz_iload 1 1)) :: (1, .inl (bz_push (.int 0) 1)) :: (2, .inl (bz_aload 0 1)) :: (3, .inl (bz_getI 2 1)) :: (6, .inl (bz_push (.int 1) 1)) :: (7, .inl (bz_isub)) ::
  (8, .inr (.inl (mX10_isWithin, 3, 0))) :: (11, .inl (bz_if_eq 23)) :: (14, .inl (bz_aload 0 1)) :: (15, .inl (bz_getR 2 0)) :: (18, .inl (bz_iload 1 1)) :: (19, .inl (bz_iald)) ::
  (20, .inl (bz_goto 24)) :: (23, .inl (bz_push (.int 0) 1)) :: (24, .inr (.inr 1)) :: []
def bm_X3_signAt : bz_M := (RX3, yX3_signAt, cX3_signAt, 2, (some .int), 1, 22, bt_X3_signAt)
def bt_X3_isLetter : List bz_E := (0, .inl (bz_iload 0 1)) :: (1, .inl (bz_push (.int 65) 2)) :: (3, .inl (bz_push (.int 67) 2)) :: (5, .inr (.inl (mX10_isWithin, 3, 0))) :: (8, .inr (.inr 3)) :: []
def bm_X3_isLetter : bz_M := (RX3, yX3_isLetter, cX3_isLetter, 1, (some .boolean), 1, 22, bt_X3_isLetter)
def bt_X3_canStand : List bz_E := (0, .inl (bz_iload 1 1)) :: (1, .inl (bz_switch [(0, 28), (1, 53)] 76)) :: (28, .inl (bz_iload 0 1)) :: (29, .inr (.inl (mX3_isLetter, 1, 0))) :: (32, .inl (bz_if_ne 47)) :: (35, .inl (bz_iload 0 1)) ::
  (36, .inl (bz_push (.int 126) 2)) :: (38, .inl (bz_ic_eq 47)) :: (41, .inl (bz_iload 0 1)) :: (42, .inl (bz_push (.int 46) 2)) :: (44, .inl (bz_ic_ne 51)) :: (47, .inl (bz_push (.int 1) 1)) ::
  (48, .inl (bz_goto 52)) :: (51, .inl (bz_push (.int 0) 1)) :: (52, .inr (.inr 3)) :: (53, .inl (bz_iload 0 1)) :: (54, .inl (bz_push (.int 48) 2)) :: (56, .inl (bz_push (.int 55) 2)) ::
  (58, .inr (.inl (mX10_isWithin, 3, 0))) :: (61, .inl (bz_if_ne 70)) :: (64, .inl (bz_iload 0 1)) :: (65, .inl (bz_push (.int 94) 2)) :: (67, .inl (bz_ic_ne 74)) :: (70, .inl (bz_push (.int 1) 1)) ::
  (71, .inl (bz_goto 75)) :: (74, .inl (bz_push (.int 0) 1)) :: (75, .inr (.inr 3)) :: (76, .inl (bz_iload 0 1)) :: (77, .inl (bz_push (.int 49) 2)) :: (79, .inl (bz_push (.int 57) 2)) ::
  (81, .inr (.inl (mX10_isWithin, 3, 0))) :: (84, .inr (.inr 3)) :: []
def bm_X3_canStand : bz_M := (RX3, yX3_canStand, cX3_canStand, 2, (some .boolean), 2, 42, bt_X3_canStand)
def bt_X3_isActAt : List bz_E := (0, .inl (bz_iload 1 1)) :: (1, .inl (bz_switch [(0, 28), (1, 41)] 53)) :: (28, .inl (bz_iload 0 1)) :: (29, .inr (.inl (mX3_isLetter, 1, 0))) :: (32, .inl (bz_if_ne 39)) :: (35, .inl (bz_push (.int 1) 1)) ::
  (36, .inl (bz_goto 40)) :: (39, .inl (bz_push (.int 0) 1)) :: (40, .inr (.inr 3)) :: (41, .inl (bz_iload 0 1)) :: (42, .inl (bz_push (.int 94) 2)) :: (44, .inl (bz_ic_ne 51)) ::
  (47, .inl (bz_push (.int 1) 1)) :: (48, .inl (bz_goto 52)) :: (51, .inl (bz_push (.int 0) 1)) :: (52, .inr (.inr 3)) :: (53, .inl (bz_push (.int 1) 1)) :: (54, .inr (.inr 3)) :: []
def bm_X3_isActAt : bz_M := (RX3, yX3_isActAt, cX3_isActAt, 2, (some .boolean), 2, 42, bt_X3_isActAt)
def bt_X3_firstFault : List bz_E := (0, .inl (bz_push (.int 0) 1)) :: (1, .inl (bz_istore 1 1)) :: (2, .inl (bz_push (.int 0) 1)) :: (3, .inl (bz_istore 2 1)) :: (4, .inl (bz_iload 2 1)) :: (5, .inl (bz_aload 0 1)) ::
  (6, .inl (bz_getI 2 1)) :: (9, .inl (bz_ic_ge 51)) :: (12, .inl (bz_aload 0 1)) :: (13, .inl (bz_getR 2 0)) :: (16, .inl (bz_iload 2 1)) :: (17, .inl (bz_iald)) ::
  (18, .inl (bz_istore 3 1)) :: (19, .inl (bz_iload 3 1)) :: (20, .inl (bz_iload 1 1)) :: (21, .inr (.inl (mX3_canStand, 2, 0))) :: (24, .inl (bz_if_ne 29)) :: (27, .inl (bz_iload 2 1)) ::
  (28, .inr (.inr 1)) :: (29, .inl (bz_iload 3 1)) :: (30, .inl (bz_iload 1 1)) :: (31, .inr (.inl (mX3_isActAt, 2, 0))) :: (34, .inl (bz_if_eq 41)) :: (37, .inl (bz_push (.int 0) 1)) ::
  (38, .inl (bz_goto 44)) :: (41, .inl (bz_iload 1 1)) :: (42, .inl (bz_push (.int 1) 1)) :: (43, .inl (bz_iadd)) :: (44, .inl (bz_istore 1 1)) :: (45, .inl (bz_iinc 2 1)) ::
  (48, .inl (bz_goto 4)) :: (51, .inl (bz_iload 1 1)) :: (52, .inl (bz_if_ne 60)) :: (55, .inl (bz_push (.int (-6)) 2)) :: (57, .inl (bz_goto 64)) :: (60, .inl (bz_aload 0 1)) ::
  (61, .inl (bz_getI 2 1)) :: (64, .inr (.inr 1)) :: []
def bm_X3_firstFault : bz_M := (RX3, yX3_firstFault, cX3_firstFault, 4, (some .int), 3, 63, bt_X3_firstFault)
def bt_X3_actKind : List bz_E := (0, .inl (bz_aload 0 1)) :: (1, .inl (bz_iload 1 1)) :: (2, .inr (.inl (mX3_signAt, 2, 3))) :: (5, .inr (.inl (mX3_isLetter, 1, 0))) :: (8, .inl (bz_if_ne 27)) :: (11, .inl (bz_aload 0 1)) ::
  (12, .inl (bz_iload 1 1)) :: (13, .inr (.inl (mX3_signAt, 2, 3))) :: (16, .inl (bz_push (.int 126) 2)) :: (18, .inl (bz_ic_ne 25)) :: (21, .inl (bz_push (.int 2) 1)) :: (22, .inl (bz_goto 26)) ::
  (25, .inl (bz_push (.int 3) 1)) :: (26, .inr (.inr 1)) :: (27, .inl (bz_aload 0 1)) :: (28, .inl (bz_iload 1 1)) :: (29, .inl (bz_push (.int 1) 1)) :: (30, .inl (bz_iadd)) ::
  (31, .inr (.inl (mX3_signAt, 2, 3))) :: (34, .inl (bz_push (.int 94) 2)) :: (36, .inl (bz_ic_ne 43)) :: (39, .inl (bz_push (.int 1) 1)) :: (40, .inl (bz_goto 44)) :: (43, .inl (bz_push (.int 0) 1)) ::
  (44, .inr (.inr 1)) :: []
def bm_X3_actKind : bz_M := (RX3, yX3_actKind, cX3_actKind, 2, (some .int), 2, 43, bt_X3_actKind)
def bt_X3_actLength : List bz_E := (0, .inl (bz_aload 0 1)) :: (1, .inl (bz_iload 1 1)) :: (2, .inr (.inl (mX3_actKind, 2, 3))) :: (5, .inl (bz_switch [(0, 32), (1, 34)] 36)) :: (32, .inl (bz_push (.int 3) 1)) :: (33, .inr (.inr 1)) ::
  (34, .inl (bz_push (.int 2) 1)) :: (35, .inr (.inr 1)) :: (36, .inl (bz_push (.int 1) 1)) :: (37, .inr (.inr 1)) :: []
def bm_X3_actLength : bz_M := (RX3, yX3_actLength, cX3_actLength, 2, (some .int), 3, 64, bt_X3_actLength)
def bt_X4_add : List bz_E := (0, .inl (bz_aload 0 1)) :: (1, .inl (bz_getI 3 2)) :: (4, .inl (bz_push (.int 8) 2)) :: (6, .inl (bz_ic_lt 11)) :: (9, .inl (bz_push (.int 0) 1)) :: (10, .inr (.inr 3)) ::
  (11, .inl (bz_aload 0 1)) :: (12, .inl (bz_getR 3 0)) :: (15, .inl (bz_aload 0 1)) :: (16, .inl (bz_getI 3 2)) :: (19, .inl (bz_iload 1 1)) :: (20, .inl (bz_iast)) ::
  (21, .inl (bz_aload 0 1)) :: (22, .inl (bz_getR 3 1)) :: (25, .inl (bz_aload 0 1)) :: (26, .inl (bz_getI 3 2)) :: (29, .inl (bz_iload 2 1)) :: (30, .inl (bz_iast)) ::
  (31, .inl (bz_aload 0 1)) :: (32, .inl (bz_dup)) :: (33, .inl (bz_getI 3 2)) :: (36, .inl (bz_push (.int 1) 1)) :: (37, .inl (bz_iadd)) :: (38, .inl (bz_putI 3 2)) ::
  (41, .inl (bz_push (.int 1) 1)) :: (42, .inr (.inr 3)) :: []
def bm_X4_add : bz_M := (RX4, yX4_add, cX4_add, 3, (some .boolean), 0, 0, bt_X4_add)
def bt_J9_floorMod_7cf53 : List bz_E := (0, .inl (bz_iload 0 1)) :: (1, .inl (bz_iload 1 1)) :: (2, .inl (bz_irem)) :: (3, .inl (bz_istore 2 1)) :: (4, .inl (bz_iload 0 1)) :: (5, .inl (bz_iload 1 1)) ::
  (6, .inl (bz_ixor)) :: (7, .inl (bz_if_ge 18)) :: (10, .inl (bz_iload 2 1)) :: (11, .inl (bz_if_eq 18)) :: (14, .inl (bz_iload 2 1)) :: (15, .inl (bz_iload 1 1)) ::
  (16, .inl (bz_iadd)) :: (17, .inr (.inr 1)) :: (18, .inl (bz_iload 2 1)) :: (19, .inr (.inr 1)) :: []
def bm_J9_floorMod_7cf53 : bz_M := (RJ9, yJ9_floorMod_7cf53, cJ9_floorMod_7cf53, 3, (some .int), 0, 0, bt_J9_floorMod_7cf53)
def bt_X7_cellBehind : List bz_E := (0, .inl (bz_aload 0 1)) :: (1, .inl (bz_getR 6 0)) :: (4, .inl (bz_iload 1 1)) :: (5, .inl (bz_push (.int 16) 2)) :: (7, .inr (.inl (mJ9_floorMod_7cf53, 2, 0))) :: (10, .inl (bz_iald)) ::
  (11, .inr (.inr 1)) :: []
def bm_X7_cellBehind : bz_M := (RX7, yX7_cellBehind, cX7_cellBehind, 2, (some .int), 1, 22, bt_X7_cellBehind)
def bt_X4_allFit : List bz_E := (0, .inl (bz_push (.int 0) 1)) :: (1, .inl (bz_istore 2 1)) :: (2, .inl (bz_iload 2 1)) :: (3, .inl (bz_aload 0 1)) :: (4, .inl (bz_getI 3 2)) :: (7, .inl (bz_ic_ge 43)) ::
  (10, .inl (bz_iload 2 1)) :: (11, .inl (bz_push (.int 8) 2)) :: (13, .inl (bz_ic_ge 43)) :: (16, .inl (bz_aload 1 1)) :: (17, .inl (bz_aload 0 1)) :: (18, .inl (bz_getR 3 0)) ::
  (21, .inl (bz_iload 2 1)) :: (22, .inl (bz_iald)) :: (23, .inr (.inl (mX7_cellBehind, 2, 7))) :: (26, .inl (bz_aload 0 1)) :: (27, .inl (bz_getR 3 1)) :: (30, .inl (bz_iload 2 1)) ::
  (31, .inl (bz_iald)) :: (32, .inl (bz_ic_eq 37)) :: (35, .inl (bz_push (.int 0) 1)) :: (36, .inr (.inr 3)) :: (37, .inl (bz_iinc 2 1)) :: (40, .inl (bz_goto 2)) ::
  (43, .inl (bz_push (.int 1) 1)) :: (44, .inr (.inr 3)) :: []
def bm_X4_allFit : bz_M := (RX4, yX4_allFit, cX4_allFit, 3, (some .boolean), 2, 43, bt_X4_allFit)
def bt_X5_begin : List bz_E := (0, .inl (bz_aload 0 1)) :: (1, .inl (bz_iload 1 1)) :: (2, .inl (bz_putI 4 0)) :: (5, .inl (bz_aload 0 1)) :: (6, .inl (bz_push (.int 0) 1)) :: (7, .inl (bz_putI 4 1)) ::
  (10, .inl (bz_aload 0 1)) :: (11, .inl (bz_push (.int 0) 1)) :: (12, .inl (bz_putI 4 2)) :: (15, .inl (bz_aload 0 1)) :: (16, .inl (bz_push (.int (-1)) 1)) :: (17, .inl (bz_putI 4 3)) ::
  (20, .inl (bz_aload 0 1)) :: (21, .inl (bz_push (.int (-1)) 1)) :: (22, .inl (bz_putI 4 4)) :: (25, .inl (bz_aload 0 1)) :: (26, .inl (bz_push (.int (-6)) 2)) :: (28, .inl (bz_putI 4 5)) ::
  (31, .inl (bz_aload 0 1)) :: (32, .inl (bz_push (.int (-6)) 2)) :: (34, .inl (bz_putI 4 6)) :: (37, .inr (.inr 0)) :: []
def bm_X5_begin : bz_M := (RX5, yX5_begin, cX5_begin, 2, none, 0, 0, bt_X5_begin)
def bt_X10_turned : List bz_E := (0, .inl (bz_iload 1 1)) :: (1, .inl (bz_push (.int 7) 2)) :: (3, .inl (bz_iand)) :: (4, .inl (bz_istore 2 1)) :: (5, .inl (bz_iload 0 1)) :: (6, .inl (bz_push (.int 9) 2)) ::
  (8, .inl (bz_idiv)) :: (9, .inl (bz_push (.ref 1001) 3)) :: (12, .inl (bz_iload 2 1)) :: (13, .inl (bz_iald)) :: (14, .inl (bz_iadd)) :: (15, .inl (bz_istore 3 1)) ::
  (16, .inl (bz_iload 0 1)) :: (17, .inl (bz_push (.int 9) 2)) :: (19, .inl (bz_irem)) :: (20, .inl (bz_push (.ref 1002) 3)) :: (23, .inl (bz_iload 2 1)) :: (24, .inl (bz_iald)) ::
  (25, .inl (bz_iadd)) :: (26, .inl (bz_istore 4 2)) :: (28, .inl (bz_iload 3 1)) :: (29, .inl (bz_if_lt 37)) :: (32, .inl (bz_iload 3 1)) :: (33, .inl (bz_push (.int 5) 1)) ::
  (34, .inl (bz_ic_lt 44)) :: (37, .inl (bz_push (.int 4) 1)) :: (38, .inl (bz_iload 2 1)) :: (39, .inl (bz_isub)) :: (40, .inl (bz_push (.int 7) 2)) :: (42, .inl (bz_iand)) ::
  (43, .inl (bz_istore 2 1)) :: (44, .inl (bz_iload 4 2)) :: (46, .inl (bz_if_lt 56)) :: (49, .inl (bz_iload 4 2)) :: (51, .inl (bz_push (.int 9) 2)) :: (53, .inl (bz_ic_lt 64)) ::
  (56, .inl (bz_push (.int 8) 2)) :: (58, .inl (bz_iload 2 1)) :: (59, .inl (bz_isub)) :: (60, .inl (bz_push (.int 7) 2)) :: (62, .inl (bz_iand)) :: (63, .inl (bz_istore 2 1)) ::
  (64, .inl (bz_iload 2 1)) :: (65, .inr (.inr 1)) :: []
def bm_X10_turned : bz_M := (RX10, yX10_turned, cX10_turned, 5, (some .int), 0, 0, bt_X10_turned)
def bt_X10_next : List bz_E := (0, .inl (bz_iload 0 1)) :: (1, .inl (bz_push (.int 9) 2)) :: (3, .inl (bz_push (.ref 1001) 3)) :: (6, .inl (bz_iload 1 1)) :: (7, .inl (bz_push (.int 7) 2)) :: (9, .inl (bz_iand)) ::
  (10, .inl (bz_iald)) :: (11, .inl (bz_imul)) :: (12, .inl (bz_iadd)) :: (13, .inl (bz_push (.ref 1002) 3)) :: (16, .inl (bz_iload 1 1)) :: (17, .inl (bz_push (.int 7) 2)) ::
  (19, .inl (bz_iand)) :: (20, .inl (bz_iald)) :: (21, .inl (bz_iadd)) :: (22, .inr (.inr 1)) :: []
def bm_X10_next : bz_M := (RX10, yX10_next, cX10_next, 2, (some .int), 0, 0, bt_X10_next)
def bt_X6_lyingOn : List bz_E := (0, .inl (bz_push (.int 0) 1)) :: (1, .inl (bz_istore 2 1)) :: (2, .inl (bz_iload 2 1)) :: (3, .inl (bz_push (.int 3) 1)) :: (4, .inl (bz_ic_ge 25)) :: (7, .inl (bz_aload 0 1)) ::
  (8, .inl (bz_getR 5 0)) :: (11, .inl (bz_iload 2 1)) :: (12, .inl (bz_iald)) :: (13, .inl (bz_iload 1 1)) :: (14, .inl (bz_ic_ne 19)) :: (17, .inl (bz_iload 2 1)) ::
  (18, .inr (.inr 1)) :: (19, .inl (bz_iinc 2 1)) :: (22, .inl (bz_goto 2)) :: (25, .inl (bz_push (.int (-1)) 1)) :: (26, .inr (.inr 1)) :: []
def bm_X6_lyingOn : bz_M := (RX6, yX6_lyingOn, cX6_lyingOn, 3, (some .int), 0, 0, bt_X6_lyingOn)
def bt_X5_touch : List bz_E := (0, .inl (bz_aload 0 1)) :: (1, .inl (bz_dup)) :: (2, .inl (bz_getI 4 1)) :: (5, .inl (bz_push (.int 1) 1)) :: (6, .inl (bz_iadd)) :: (7, .inl (bz_putI 4 1)) ::
  (10, .inl (bz_aload 0 1)) :: (11, .inl (bz_getI 4 1)) :: (14, .inl (bz_push (.int 1) 1)) :: (15, .inl (bz_ic_ne 36)) :: (18, .inl (bz_aload 0 1)) :: (19, .inl (bz_iload 1 1)) ::
  (20, .inl (bz_putI 4 4)) :: (23, .inl (bz_aload 0 1)) :: (24, .inl (bz_iload 2 1)) :: (25, .inl (bz_putI 4 5)) :: (28, .inl (bz_aload 0 1)) :: (29, .inl (bz_aload 0 1)) ::
  (30, .inl (bz_getI 4 2)) :: (33, .inl (bz_putI 4 6)) :: (36, .inr (.inr 0)) :: []
def bm_X5_touch : bz_M := (RX5, yX5_touch, cX5_touch, 3, none, 0, 0, bt_X5_touch)
def bt_X10_isPocket : List bz_E := (0, .inl (bz_iload 0 1)) :: (1, .inl (bz_push (.int 9) 2)) :: (3, .inl (bz_idiv)) :: (4, .inl (bz_istore 1 1)) :: (5, .inl (bz_iload 1 1)) :: (6, .inl (bz_if_eq 14)) ::
  (9, .inl (bz_iload 1 1)) :: (10, .inl (bz_push (.int 4) 1)) :: (11, .inl (bz_ic_ne 27)) :: (14, .inl (bz_iload 0 1)) :: (15, .inl (bz_push (.int 9) 2)) :: (17, .inl (bz_irem)) ::
  (18, .inl (bz_push (.int 4) 1)) :: (19, .inl (bz_irem)) :: (20, .inl (bz_if_ne 27)) :: (23, .inl (bz_push (.int 1) 1)) :: (24, .inl (bz_goto 28)) :: (27, .inl (bz_push (.int 0) 1)) ::
  (28, .inr (.inr 3)) :: []
def bm_X10_isPocket : bz_M := (RX10, yX10_isPocket, cX10_isPocket, 2, (some .boolean), 0, 0, bt_X10_isPocket)
def bt_X5_run : List bz_E := (0, .inl (bz_aload 0 1)) :: (1, .inl (bz_iload 2 1)) :: (2, .inr (.inl (mX5_begin, 2, 5))) :: (5, .inl (bz_iload 2 1)) :: (6, .inl (bz_istore 5 2)) :: (8, .inl (bz_iload 3 1)) ::
  (9, .inl (bz_istore 6 2)) :: (11, .inl (bz_push (.int 1) 1)) :: (12, .inl (bz_istore 7 2)) :: (14, .inl (bz_iload 7 2)) :: (16, .inl (bz_iload 4 2)) :: (18, .inl (bz_ic_gt 146)) ::
  (21, .inl (bz_aload 0 1)) :: (22, .inl (bz_getI 4 3)) :: (25, .inl (bz_push (.int (-1)) 1)) :: (26, .inl (bz_ic_ne 146)) :: (29, .inl (bz_aload 1 1)) :: (30, .inl (bz_getR 5 0)) ::
  (33, .inl (bz_iload 5 2)) :: (35, .inl (bz_iald)) :: (36, .inl (bz_istore 8 2)) :: (38, .inl (bz_iload 8 2)) :: (40, .inl (bz_iload 6 2)) :: (42, .inr (.inl (mX10_turned, 2, 0))) ::
  (45, .inl (bz_istore 9 2)) :: (47, .inl (bz_iload 9 2)) :: (49, .inl (bz_iload 6 2)) :: (51, .inl (bz_ic_eq 64)) :: (54, .inl (bz_aload 0 1)) :: (55, .inl (bz_dup)) ::
  (56, .inl (bz_getI 4 2)) :: (59, .inl (bz_push (.int 1) 1)) :: (60, .inl (bz_iadd)) :: (61, .inl (bz_putI 4 2)) :: (64, .inl (bz_iload 9 2)) :: (66, .inl (bz_istore 6 2)) ::
  (68, .inl (bz_iload 8 2)) :: (70, .inl (bz_iload 6 2)) :: (72, .inr (.inl (mX10_next, 2, 0))) :: (75, .inl (bz_istore 10 2)) :: (77, .inl (bz_aload 1 1)) :: (78, .inl (bz_iload 10 2)) ::
  (80, .inr (.inl (mX6_lyingOn, 2, 6))) :: (83, .inl (bz_istore 11 2)) :: (85, .inl (bz_iload 11 2)) :: (87, .inl (bz_push (.int (-1)) 1)) :: (88, .inl (bz_ic_eq 106)) :: (91, .inl (bz_aload 0 1)) ::
  (92, .inl (bz_iload 11 2)) :: (94, .inl (bz_iload 7 2)) :: (96, .inr (.inl (mX5_touch, 3, 5))) :: (99, .inl (bz_iload 11 2)) :: (101, .inl (bz_istore 5 2)) :: (103, .inl (bz_goto 140)) ::
  (106, .inl (bz_iload 10 2)) :: (108, .inr (.inl (mX10_isPocket, 1, 0))) :: (111, .inl (bz_if_eq 131)) :: (114, .inl (bz_aload 1 1)) :: (115, .inl (bz_getR 5 0)) :: (118, .inl (bz_iload 5 2)) ::
  (120, .inl (bz_push (.int (-1)) 1)) :: (121, .inl (bz_iast)) :: (122, .inl (bz_aload 0 1)) :: (123, .inl (bz_iload 5 2)) :: (125, .inl (bz_putI 4 3)) :: (128, .inl (bz_goto 140)) ::
  (131, .inl (bz_aload 1 1)) :: (132, .inl (bz_getR 5 0)) :: (135, .inl (bz_iload 5 2)) :: (137, .inl (bz_iload 10 2)) :: (139, .inl (bz_iast)) :: (140, .inl (bz_iinc 7 1)) ::
  (143, .inl (bz_goto 14)) :: (146, .inr (.inr 0)) :: []
def bm_X5_run : bz_M := (RX5, yX5_run, cX5_run, 12, none, 1, 24, bt_X5_run)
def bt_X5_pointsMore : List bz_E := (0, .inl (bz_aload 0 1)) :: (1, .inl (bz_getI 4 1)) :: (4, .inl (bz_push (.int 2) 1)) :: (5, .inl (bz_ic_lt 12)) :: (8, .inl (bz_push (.int 2) 1)) :: (9, .inl (bz_goto 13)) ::
  (12, .inl (bz_push (.int 0) 1)) :: (13, .inl (bz_istore 1 1)) :: (14, .inl (bz_aload 0 1)) :: (15, .inl (bz_getI 4 3)) :: (18, .inl (bz_push (.int (-1)) 1)) :: (19, .inl (bz_ic_eq 37)) ::
  (22, .inl (bz_aload 0 1)) :: (23, .inl (bz_getI 4 3)) :: (26, .inl (bz_aload 0 1)) :: (27, .inl (bz_getI 4 0)) :: (30, .inl (bz_ic_eq 37)) :: (33, .inl (bz_push (.int 3) 1)) ::
  (34, .inl (bz_goto 38)) :: (37, .inl (bz_push (.int 0) 1)) :: (38, .inl (bz_istore 2 1)) :: (39, .inl (bz_iload 1 1)) :: (40, .inl (bz_iload 2 1)) :: (41, .inl (bz_iadd)) ::
  (42, .inr (.inr 1)) :: []
def bm_X5_pointsMore : bz_M := (RX5, yX5_pointsMore, cX5_pointsMore, 3, (some .int), 0, 0, bt_X5_pointsMore)
def bt_X5_foulsMore : List bz_E := (0, .inl (bz_aload 0 1)) :: (1, .inl (bz_getI 4 3)) :: (4, .inl (bz_aload 0 1)) :: (5, .inl (bz_getI 4 0)) :: (8, .inl (bz_ic_ne 15)) :: (11, .inl (bz_push (.int 1) 1)) ::
  (12, .inl (bz_goto 16)) :: (15, .inl (bz_push (.int 0) 1)) :: (16, .inl (bz_istore 1 1)) :: (17, .inl (bz_aload 0 1)) :: (18, .inl (bz_getI 4 1)) :: (21, .inl (bz_if_le 35)) ::
  (24, .inl (bz_aload 0 1)) :: (25, .inl (bz_getI 4 6)) :: (28, .inl (bz_if_ne 35)) :: (31, .inl (bz_push (.int 1) 1)) :: (32, .inl (bz_goto 36)) :: (35, .inl (bz_push (.int 0) 1)) ::
  (36, .inl (bz_istore 2 1)) :: (37, .inl (bz_iload 1 1)) :: (38, .inl (bz_iload 2 1)) :: (39, .inl (bz_iadd)) :: (40, .inr (.inr 1)) :: []
def bm_X5_foulsMore : bz_M := (RX5, yX5_foulsMore, cX5_foulsMore, 3, (some .int), 0, 0, bt_X5_foulsMore)
def bt_X10_isBall : List bz_E := (0, .inl (bz_iload 0 1)) :: (1, .inl (bz_if_lt 13)) :: (4, .inl (bz_iload 0 1)) :: (5, .inl (bz_push (.int 3) 1)) :: (6, .inl (bz_ic_ge 13)) :: (9, .inl (bz_push (.int 1) 1)) ::
  (10, .inl (bz_goto 14)) :: (13, .inl (bz_push (.int 0) 1)) :: (14, .inr (.inr 3)) :: []
def bm_X10_isBall : bz_M := (RX10, yX10_isBall, cX10_isBall, 1, (some .boolean), 0, 0, bt_X10_isBall)
def bt_X6_isDown : List bz_E := (0, .inl (bz_iload 1 1)) :: (1, .inr (.inl (mX10_isBall, 1, 0))) :: (4, .inl (bz_if_eq 17)) :: (7, .inl (bz_aload 0 1)) :: (8, .inl (bz_getR 5 0)) :: (11, .inl (bz_iload 1 1)) ::
  (12, .inl (bz_iald)) :: (13, .inl (bz_push (.int (-1)) 1)) :: (14, .inl (bz_ic_ne 21)) :: (17, .inl (bz_push (.int 1) 1)) :: (18, .inl (bz_goto 22)) :: (21, .inl (bz_push (.int 0) 1)) ::
  (22, .inr (.inr 3)) :: []
def bm_X6_isDown : bz_M := (RX6, yX6_isDown, cX6_isDown, 2, (some .boolean), 1, 20, bt_X6_isDown)
def bt_X6_cellOrNone : List bz_E := (0, .inl (bz_aload 0 1)) :: (1, .inl (bz_iload 1 1)) :: (2, .inr (.inl (mX6_isDown, 2, 6))) :: (5, .inl (bz_if_eq 13)) :: (8, .inl (bz_push (.int (-6)) 2)) :: (10, .inl (bz_goto 19)) ::
  (13, .inl (bz_aload 0 1)) :: (14, .inl (bz_getR 5 0)) :: (17, .inl (bz_iload 1 1)) :: (18, .inl (bz_iald)) :: (19, .inr (.inr 1)) :: []
def bm_X6_cellOrNone : bz_M := (RX6, yX6_cellOrNone, cX6_cellOrNone, 2, (some .int), 2, 41, bt_X6_cellOrNone)
def bt_X6_howManyDown : List bz_E := (0, .inl (bz_push (.int 0) 1)) :: (1, .inl (bz_istore 1 1)) :: (2, .inl (bz_push (.int 0) 1)) :: (3, .inl (bz_istore 2 1)) :: (4, .inl (bz_iload 2 1)) :: (5, .inl (bz_push (.int 3) 1)) ::
  (6, .inl (bz_ic_ge 26)) :: (9, .inl (bz_aload 0 1)) :: (10, .inl (bz_iload 2 1)) :: (11, .inr (.inl (mX6_isDown, 2, 6))) :: (14, .inl (bz_if_eq 20)) :: (17, .inl (bz_iinc 1 1)) ::
  (20, .inl (bz_iinc 2 1)) :: (23, .inl (bz_goto 4)) :: (26, .inl (bz_iload 1 1)) :: (27, .inr (.inr 1)) :: []
def bm_X6_howManyDown : bz_M := (RX6, yX6_howManyDown, cX6_howManyDown, 3, (some .int), 2, 41, bt_X6_howManyDown)
def bt_X6_reasonAgainst : List bz_E := (0, .inl (bz_iload 1 1)) :: (1, .inl (bz_switch (bz_mk 0 [32, 46, 99, 84]) 99)) :: (32, .inl (bz_aload 0 1)) :: (33, .inl (bz_iload 2 1)) :: (34, .inr (.inl (mX6_isDown, 2, 6))) :: (37, .inl (bz_if_eq 44)) ::
  (40, .inl (bz_push (.int 1) 1)) :: (41, .inl (bz_goto 45)) :: (44, .inl (bz_push (.int 0) 1)) :: (45, .inr (.inr 1)) :: (46, .inl (bz_iload 2 1)) :: (47, .inr (.inl (mX10_isBall, 1, 0))) ::
  (50, .inl (bz_if_eq 63)) :: (53, .inl (bz_aload 0 1)) :: (54, .inl (bz_getR 5 0)) :: (57, .inl (bz_iload 2 1)) :: (58, .inl (bz_iald)) :: (59, .inl (bz_push (.int (-1)) 1)) ::
  (60, .inl (bz_ic_eq 65)) :: (63, .inl (bz_push (.int 1) 1)) :: (64, .inr (.inr 1)) :: (65, .inl (bz_aload 0 1)) :: (66, .inl (bz_push (.ref 1000) 3)) :: (69, .inl (bz_iload 2 1)) ::
  (70, .inl (bz_iald)) :: (71, .inr (.inl (mX6_lyingOn, 2, 6))) :: (74, .inl (bz_push (.int (-1)) 1)) :: (75, .inl (bz_ic_ne 82)) :: (78, .inl (bz_push (.int 0) 1)) :: (79, .inl (bz_goto 83)) ::
  (82, .inl (bz_push (.int 2) 1)) :: (83, .inr (.inr 1)) :: (84, .inl (bz_aload 0 1)) :: (85, .inl (bz_getI 5 3)) :: (88, .inl (bz_push (.int 99) 2)) :: (90, .inl (bz_ic_lt 97)) ::
  (93, .inl (bz_push (.int 3) 1)) :: (94, .inl (bz_goto 98)) :: (97, .inl (bz_push (.int 0) 1)) :: (98, .inr (.inr 1)) :: (99, .inl (bz_push (.int 0) 1)) :: (100, .inr (.inr 1)) :: []
def bm_X6_reasonAgainst : bz_M := (RX6, yX6_reasonAgainst, cX6_reasonAgainst, 3, (some .int), 2, 41, bt_X6_reasonAgainst)
def bt_X6_driftOne : List bz_E := (0, .inl (bz_aload 0 1)) :: (1, .inl (bz_getR 5 0)) :: (4, .inl (bz_iload 1 1)) :: (5, .inl (bz_iald)) :: (6, .inl (bz_push (.int 1) 1)) :: (7, .inl (bz_isub)) ::
  (8, .inl (bz_istore 2 1)) :: (9, .inl (bz_iload 2 1)) :: (10, .inr (.inl (mX10_isPocket, 1, 0))) :: (13, .inl (bz_if_ne 32)) :: (16, .inl (bz_aload 0 1)) :: (17, .inl (bz_iload 2 1)) ::
  (18, .inr (.inl (mX6_lyingOn, 2, 6))) :: (21, .inl (bz_push (.int (-1)) 1)) :: (22, .inl (bz_ic_ne 32)) :: (25, .inl (bz_aload 0 1)) :: (26, .inl (bz_getR 5 0)) :: (29, .inl (bz_iload 1 1)) ::
  (30, .inl (bz_iload 2 1)) :: (31, .inl (bz_iast)) :: (32, .inr (.inr 0)) :: []
def bm_X6_driftOne : bz_M := (RX6, yX6_driftOne, cX6_driftOne, 3, none, 1, 22, bt_X6_driftOne)
def bt_X6_drift : List bz_E := (0, .inl (bz_push (.int 1) 1)) :: (1, .inl (bz_istore 1 1)) :: (2, .inl (bz_iload 1 1)) :: (3, .inl (bz_push (.int 9) 2)) :: (5, .inl (bz_ic_ge 53)) :: (8, .inl (bz_push (.int 0) 1)) ::
  (9, .inl (bz_istore 2 1)) :: (10, .inl (bz_iload 2 1)) :: (11, .inl (bz_push (.int 3) 1)) :: (12, .inl (bz_ic_ge 47)) :: (15, .inl (bz_aload 0 1)) :: (16, .inl (bz_iload 2 1)) ::
  (17, .inr (.inl (mX6_isDown, 2, 6))) :: (20, .inl (bz_if_ne 41)) :: (23, .inl (bz_aload 0 1)) :: (24, .inl (bz_getR 5 0)) :: (27, .inl (bz_iload 2 1)) :: (28, .inl (bz_iald)) ::
  (29, .inl (bz_push (.int 9) 2)) :: (31, .inl (bz_irem)) :: (32, .inl (bz_iload 1 1)) :: (33, .inl (bz_ic_ne 41)) :: (36, .inl (bz_aload 0 1)) :: (37, .inl (bz_iload 2 1)) ::
  (38, .inr (.inl (mX6_driftOne, 2, 6))) :: (41, .inl (bz_iinc 2 1)) :: (44, .inl (bz_goto 10)) :: (47, .inl (bz_iinc 1 1)) :: (50, .inl (bz_goto 2)) :: (53, .inr (.inr 0)) :: []
def bm_X6_drift : bz_M := (RX6, yX6_drift, cX6_drift, 3, none, 2, 44, bt_X6_drift)
def bt_X10_bit : List bz_E := (0, .inl (bz_push (.long 1) 1)) :: (1, .inl (bz_iload 0 1)) :: (2, .inl (bz_lshl)) :: (3, .inr (.inr 2)) :: []
def bm_X10_bit : bz_M := (RX10, yX10_bit, cX10_bit, 1, (some .long), 0, 0, bt_X10_bit)
def bt_X7_walk : List bz_E := (0, .inl (bz_aload 0 1)) :: (1, .inl (bz_push (.int (-6)) 2)) :: (3, .inl (bz_putI 6 1)) :: (6, .inl (bz_aload 0 1)) :: (7, .inl (bz_push (.long 0) 1)) :: (8, .inl (bz_putL 6 2)) ::
  (11, .inl (bz_iload 1 1)) :: (12, .inl (bz_istore 3 1)) :: (13, .inl (bz_iload 2 1)) :: (14, .inl (bz_istore 4 2)) :: (16, .inl (bz_push (.int 0) 1)) :: (17, .inl (bz_istore 5 2)) ::
  (19, .inl (bz_iload 5 2)) :: (21, .inl (bz_push (.int 16) 2)) :: (23, .inl (bz_ic_ge 96)) :: (26, .inl (bz_aload 0 1)) :: (27, .inl (bz_getR 6 0)) :: (30, .inl (bz_iload 5 2)) ::
  (32, .inl (bz_iload 3 1)) :: (33, .inl (bz_iast)) :: (34, .inl (bz_aload 0 1)) :: (35, .inl (bz_dup)) :: (36, .inl (bz_getL 6 2)) :: (39, .inl (bz_iload 3 1)) ::
  (40, .inr (.inl (mX10_bit, 1, 0))) :: (43, .inl (bz_lor)) :: (44, .inl (bz_putL 6 2)) :: (47, .inl (bz_iload 3 1)) :: (48, .inl (bz_iload 4 2)) :: (50, .inr (.inl (mX10_turned, 2, 0))) ::
  (53, .inl (bz_istore 4 2)) :: (55, .inl (bz_iload 3 1)) :: (56, .inl (bz_iload 4 2)) :: (58, .inr (.inl (mX10_next, 2, 0))) :: (61, .inl (bz_istore 3 1)) :: (62, .inl (bz_aload 0 1)) ::
  (63, .inl (bz_getI 6 1)) :: (66, .inl (bz_push (.int (-6)) 2)) :: (68, .inl (bz_ic_ne 90)) :: (71, .inl (bz_iload 3 1)) :: (72, .inl (bz_iload 1 1)) :: (73, .inl (bz_ic_ne 90)) ::
  (76, .inl (bz_iload 4 2)) :: (78, .inl (bz_iload 2 1)) :: (79, .inl (bz_ic_ne 90)) :: (82, .inl (bz_aload 0 1)) :: (83, .inl (bz_iload 5 2)) :: (85, .inl (bz_push (.int 1) 1)) ::
  (86, .inl (bz_iadd)) :: (87, .inl (bz_putI 6 1)) :: (90, .inl (bz_iinc 5 1)) :: (93, .inl (bz_goto 19)) :: (96, .inr (.inr 0)) :: []
def bm_X7_walk : bz_M := (RX7, yX7_walk, cX7_walk, 6, none, 1, 24, bt_X7_walk)
def bt_X8_begin : List bz_E := (0, .inl (bz_aload 0 1)) :: (1, .inl (bz_getR 7 0)) :: (4, .inl (bz_aload 1 1)) :: (5, .inr (.inl (mX6_copy, 2, 6))) :: (8, .inl (bz_aload 0 1)) :: (9, .inl (bz_push (.int 0) 1)) ::
  (10, .inl (bz_putI 7 2)) :: (13, .inl (bz_aload 0 1)) :: (14, .inl (bz_push (.int (-6)) 2)) :: (16, .inl (bz_putI 7 3)) :: (19, .inl (bz_aload 0 1)) :: (20, .inl (bz_push (.int (-6)) 2)) ::
  (22, .inl (bz_putI 7 4)) :: (25, .inl (bz_aload 0 1)) :: (26, .inl (bz_push (.int 0) 1)) :: (27, .inl (bz_putI 7 5)) :: (30, .inl (bz_aload 0 1)) :: (31, .inl (bz_push (.int 0) 1)) ::
  (32, .inl (bz_putI 7 6)) :: (35, .inl (bz_aload 0 1)) :: (36, .inl (bz_push (.int (-6)) 2)) :: (38, .inl (bz_putI 7 7)) :: (41, .inr (.inr 0)) :: []
def bm_X8_begin : bz_M := (RX8, yX8_begin, cX8_begin, 2, none, 1, 22, bt_X8_begin)
def bt_X8_play : List bz_E := (0, .inl (bz_aload 0 1)) :: (1, .inl (bz_getR 7 1)) :: (4, .inl (bz_aload 0 1)) :: (5, .inl (bz_getR 7 0)) :: (8, .inl (bz_iload 1 1)) :: (9, .inl (bz_iload 2 1)) ::
  (10, .inl (bz_iload 3 1)) :: (11, .inr (.inl (mX5_run, 5, 5))) :: (14, .inl (bz_aload 0 1)) :: (15, .inl (bz_getR 7 0)) :: (18, .inl (bz_dup)) :: (19, .inl (bz_getI 5 1)) ::
  (22, .inl (bz_aload 0 1)) :: (23, .inl (bz_getR 7 1)) :: (26, .inr (.inl (mX5_pointsMore, 1, 5))) :: (29, .inl (bz_iadd)) :: (30, .inl (bz_putI 5 1)) :: (33, .inl (bz_aload 0 1)) ::
  (34, .inl (bz_getR 7 0)) :: (37, .inl (bz_dup)) :: (38, .inl (bz_getI 5 2)) :: (41, .inl (bz_aload 0 1)) :: (42, .inl (bz_getR 7 1)) :: (45, .inr (.inl (mX5_foulsMore, 1, 5))) ::
  (48, .inl (bz_iadd)) :: (49, .inl (bz_putI 5 2)) :: (52, .inl (bz_aload 0 1)) :: (53, .inl (bz_dup)) :: (54, .inl (bz_getI 7 5)) :: (57, .inl (bz_aload 0 1)) ::
  (58, .inl (bz_getR 7 1)) :: (61, .inl (bz_getI 4 1)) :: (64, .inl (bz_iadd)) :: (65, .inl (bz_putI 7 5)) :: (68, .inl (bz_aload 0 1)) :: (69, .inl (bz_dup)) ::
  (70, .inl (bz_getI 7 6)) :: (73, .inl (bz_aload 0 1)) :: (74, .inl (bz_getR 7 1)) :: (77, .inl (bz_getI 4 2)) :: (80, .inl (bz_iadd)) :: (81, .inl (bz_putI 7 6)) ::
  (84, .inr (.inr 0)) :: []
def bm_X8_play : bz_M := (RX8, yX8_play, cX8_play, 4, none, 2, 55, bt_X8_play)
def bt_X8_tryAct : List bz_E := (0, .inl (bz_aload 0 1)) :: (1, .inl (bz_getR 7 0)) :: (4, .inl (bz_iload 1 1)) :: (5, .inl (bz_iload 2 1)) :: (6, .inr (.inl (mX6_reasonAgainst, 3, 6))) :: (9, .inl (bz_istore 5 2)) ::
  (11, .inl (bz_iload 5 2)) :: (13, .inl (bz_if_eq 19)) :: (16, .inl (bz_iload 5 2)) :: (18, .inr (.inr 1)) :: (19, .inl (bz_iload 1 1)) :: (20, .inl (bz_switch (bz_mk 0 [48, 59, 76]) 86)) ::
  (48, .inl (bz_aload 0 1)) :: (49, .inl (bz_iload 2 1)) :: (50, .inl (bz_iload 3 1)) :: (51, .inl (bz_iload 4 2)) :: (53, .inr (.inl (mX8_play, 4, 8))) :: (56, .inl (bz_goto 99)) ::
  (59, .inl (bz_aload 0 1)) :: (60, .inl (bz_getR 7 0)) :: (63, .inl (bz_getR 5 0)) :: (66, .inl (bz_iload 2 1)) :: (67, .inl (bz_push (.ref 1000) 3)) :: (70, .inl (bz_iload 2 1)) ::
  (71, .inl (bz_iald)) :: (72, .inl (bz_iast)) :: (73, .inl (bz_goto 99)) :: (76, .inl (bz_aload 0 1)) :: (77, .inl (bz_getR 7 0)) :: (80, .inr (.inl (mX6_drift, 1, 6))) ::
  (83, .inl (bz_goto 99)) :: (86, .inl (bz_aload 0 1)) :: (87, .inl (bz_getR 7 0)) :: (90, .inl (bz_dup)) :: (91, .inl (bz_getI 5 3)) :: (94, .inl (bz_push (.int 1) 1)) ::
  (95, .inl (bz_iadd)) :: (96, .inl (bz_putI 5 3)) :: (99, .inl (bz_push (.int 0) 1)) :: (100, .inr (.inr 1)) :: []
def bm_X8_tryAct : bz_M := (RX8, yX8_tryAct, cX8_tryAct, 6, (some .int), 3, 78, bt_X8_tryAct)
def bt_X8_runText : List bz_E := (0, .inl (bz_aload 0 1)) :: (1, .inl (bz_aload 2 1)) :: (2, .inr (.inl (mX8_begin, 2, 8))) :: (5, .inl (bz_push (.int 0) 1)) :: (6, .inl (bz_istore 3 1)) :: (7, .inl (bz_iload 3 1)) ::
  (8, .inl (bz_aload 1 1)) :: (9, .inl (bz_getI 2 1)) :: (12, .inl (bz_ic_ge 141)) :: (15, .inl (bz_aload 0 1)) :: (16, .inl (bz_getI 7 3)) :: (19, .inl (bz_push (.int (-6)) 2)) ::
  (21, .inl (bz_ic_ne 141)) :: (24, .inl (bz_aload 0 1)) :: (25, .inl (bz_getR 7 0)) :: (28, .inl (bz_getI 5 2)) :: (31, .inl (bz_istore 4 2)) :: (33, .inl (bz_aload 0 1)) ::
  (34, .inl (bz_aload 1 1)) :: (35, .inl (bz_iload 3 1)) :: (36, .inr (.inl (mX3_actKind, 2, 3))) :: (39, .inl (bz_aload 1 1)) :: (40, .inl (bz_iload 3 1)) :: (41, .inr (.inl (mX3_signAt, 2, 3))) ::
  (44, .inl (bz_push (.int 65) 2)) :: (46, .inl (bz_isub)) :: (47, .inl (bz_aload 1 1)) :: (48, .inl (bz_iload 3 1)) :: (49, .inl (bz_push (.int 1) 1)) :: (50, .inl (bz_iadd)) ::
  (51, .inr (.inl (mX3_signAt, 2, 3))) :: (54, .inl (bz_push (.int 48) 2)) :: (56, .inl (bz_isub)) :: (57, .inl (bz_aload 1 1)) :: (58, .inl (bz_iload 3 1)) :: (59, .inl (bz_push (.int 2) 1)) ::
  (60, .inl (bz_iadd)) :: (61, .inr (.inl (mX3_signAt, 2, 3))) :: (64, .inl (bz_push (.int 48) 2)) :: (66, .inl (bz_isub)) :: (67, .inr (.inl (mX8_tryAct, 5, 8))) :: (70, .inl (bz_istore 5 2)) ::
  (72, .inl (bz_iload 5 2)) :: (74, .inl (bz_if_eq 91)) :: (77, .inl (bz_aload 0 1)) :: (78, .inl (bz_aload 0 1)) :: (79, .inl (bz_getI 7 2)) :: (82, .inl (bz_putI 7 3)) ::
  (85, .inl (bz_aload 0 1)) :: (86, .inl (bz_iload 5 2)) :: (88, .inl (bz_putI 7 4)) :: (91, .inl (bz_aload 0 1)) :: (92, .inl (bz_getI 7 7)) :: (95, .inl (bz_push (.int (-6)) 2)) ::
  (97, .inl (bz_ic_ne 120)) :: (100, .inl (bz_aload 0 1)) :: (101, .inl (bz_getR 7 0)) :: (104, .inl (bz_getI 5 2)) :: (107, .inl (bz_iload 4 2)) :: (109, .inl (bz_ic_le 120)) ::
  (112, .inl (bz_aload 0 1)) :: (113, .inl (bz_aload 0 1)) :: (114, .inl (bz_getI 7 2)) :: (117, .inl (bz_putI 7 7)) :: (120, .inl (bz_aload 0 1)) :: (121, .inl (bz_dup)) ::
  (122, .inl (bz_getI 7 2)) :: (125, .inl (bz_push (.int 1) 1)) :: (126, .inl (bz_iadd)) :: (127, .inl (bz_putI 7 2)) :: (130, .inl (bz_iload 3 1)) :: (131, .inl (bz_aload 1 1)) ::
  (132, .inl (bz_iload 3 1)) :: (133, .inr (.inl (mX3_actLength, 2, 3))) :: (136, .inl (bz_iadd)) :: (137, .inl (bz_istore 3 1)) :: (138, .inl (bz_goto 7)) :: (141, .inr (.inr 0)) :: []
def bm_X8_runText : bz_M := (RX8, yX8_runText, cX8_runText, 6, none, 4, 103, bt_X8_runText)
def bt_X8_runSeason : List bz_E := (0, .inl (bz_aload 0 1)) :: (1, .inl (bz_aload 3 1)) :: (2, .inr (.inl (mX8_begin, 2, 8))) :: (5, .inl (bz_iload 1 1)) :: (6, .inl (bz_istore 4 2)) :: (8, .inl (bz_push (.int 0) 1)) ::
  (9, .inl (bz_istore 5 2)) :: (11, .inl (bz_iload 5 2)) :: (13, .inl (bz_iload 2 1)) :: (14, .inl (bz_ic_ge 90)) :: (17, .inl (bz_push (.int 75) 2)) :: (19, .inl (bz_iload 4 2)) ::
  (21, .inl (bz_imul)) :: (22, .inl (bz_push (.int 74) 2)) :: (24, .inl (bz_iadd)) :: (25, .inl (bz_push (.int 65537) 2)) :: (27, .inl (bz_irem)) :: (28, .inl (bz_istore 4 2)) ::
  (30, .inl (bz_iload 4 2)) :: (32, .inl (bz_push (.int 3) 1)) :: (33, .inl (bz_idiv)) :: (34, .inl (bz_push (.int 8) 2)) :: (36, .inl (bz_irem)) :: (37, .inl (bz_istore 6 2)) ::
  (39, .inl (bz_iload 4 2)) :: (41, .inl (bz_push (.int 24) 2)) :: (43, .inl (bz_idiv)) :: (44, .inl (bz_istore 7 2)) :: (46, .inl (bz_aload 0 1)) :: (47, .inl (bz_iload 6 2)) ::
  (49, .inl (bz_push (.int 4) 1)) :: (50, .inl (bz_ic_gt 57)) :: (53, .inl (bz_push (.int 0) 1)) :: (54, .inl (bz_goto 61)) :: (57, .inl (bz_iload 6 2)) :: (59, .inl (bz_push (.int 4) 1)) ::
  (60, .inl (bz_isub)) :: (61, .inl (bz_iload 4 2)) :: (63, .inl (bz_push (.int 3) 1)) :: (64, .inl (bz_irem)) :: (65, .inl (bz_iload 7 2)) :: (67, .inl (bz_push (.int 8) 2)) ::
  (69, .inl (bz_irem)) :: (70, .inl (bz_push (.int 1) 1)) :: (71, .inl (bz_iload 7 2)) :: (73, .inl (bz_push (.int 8) 2)) :: (75, .inl (bz_idiv)) :: (76, .inl (bz_push (.int 9) 2)) ::
  (78, .inl (bz_irem)) :: (79, .inl (bz_iadd)) :: (80, .inr (.inl (mX8_tryAct, 5, 8))) :: (83, .inl (bz_pop1)) :: (84, .inl (bz_iinc 5 1)) :: (87, .inl (bz_goto 11)) ::
  (90, .inr (.inr 0)) :: []
def bm_X8_runSeason : bz_M := (RX8, yX8_runSeason, cX8_runSeason, 8, none, 4, 103, bt_X8_runSeason)
def bt_X8_forceToTouch : List bz_E := (0, .inl (bz_aload 0 1)) :: (1, .inl (bz_aload 1 1)) :: (2, .inr (.inl (mX8_begin, 2, 8))) :: (5, .inl (bz_aload 0 1)) :: (6, .inl (bz_getR 7 1)) :: (9, .inl (bz_aload 0 1)) ::
  (10, .inl (bz_getR 7 0)) :: (13, .inl (bz_iload 2 1)) :: (14, .inl (bz_iload 3 1)) :: (15, .inl (bz_push (.int 9) 2)) :: (17, .inr (.inl (mX5_run, 5, 5))) :: (20, .inl (bz_aload 0 1)) ::
  (21, .inl (bz_getR 7 1)) :: (24, .inl (bz_getI 4 4)) :: (27, .inl (bz_iload 4 2)) :: (29, .inl (bz_ic_ne 54)) :: (32, .inl (bz_aload 0 1)) :: (33, .inl (bz_getR 7 1)) ::
  (36, .inl (bz_getI 4 6)) :: (39, .inl (bz_iload 5 2)) :: (41, .inl (bz_ic_ne 54)) :: (44, .inl (bz_aload 0 1)) :: (45, .inl (bz_getR 7 1)) :: (48, .inl (bz_getI 4 5)) ::
  (51, .inl (bz_goto 56)) :: (54, .inl (bz_push (.int (-6)) 2)) :: (56, .inr (.inr 1)) :: []
def bm_X8_forceToTouch : bz_M := (RX8, yX8_forceToTouch, cX8_forceToTouch, 6, (some .int), 2, 55, bt_X8_forceToTouch)
def bt_X10_isCell : List bz_E := (0, .inl (bz_iload 0 1)) :: (1, .inl (bz_push (.int 0) 1)) :: (2, .inl (bz_push (.int 44) 2)) :: (4, .inr (.inl (mX10_isWithin, 3, 0))) :: (7, .inr (.inr 3)) :: []
def bm_X10_isCell : bz_M := (RX10, yX10_isCell, cX10_isCell, 1, (some .boolean), 1, 22, bt_X10_isCell)
def bt_X10_isPlace : List bz_E := (0, .inl (bz_iload 0 1)) :: (1, .inr (.inl (mX10_isCell, 1, 0))) :: (4, .inl (bz_if_eq 18)) :: (7, .inl (bz_iload 0 1)) :: (8, .inr (.inl (mX10_isPocket, 1, 0))) :: (11, .inl (bz_if_ne 18)) ::
  (14, .inl (bz_push (.int 1) 1)) :: (15, .inl (bz_goto 19)) :: (18, .inl (bz_push (.int 0) 1)) :: (19, .inr (.inr 3)) :: []
def bm_X10_isPlace : bz_M := (RX10, yX10_isPlace, cX10_isPlace, 1, (some .boolean), 2, 42, bt_X10_isPlace)
def bt_X9_gather : List bz_E := (0, .inl (bz_aload 0 1)) :: (1, .inl (bz_push (.int 0) 1)) :: (2, .inl (bz_putI 8 1)) :: (5, .inl (bz_push (.int 0) 1)) :: (6, .inl (bz_istore 3 1)) :: (7, .inl (bz_iload 3 1)) ::
  (8, .inl (bz_push (.int 45) 2)) :: (10, .inl (bz_ic_ge 83)) :: (13, .inl (bz_push (.int 0) 1)) :: (14, .inl (bz_istore 4 2)) :: (16, .inl (bz_iload 4 2)) :: (18, .inl (bz_push (.int 8) 2)) ::
  (20, .inl (bz_ic_ge 77)) :: (23, .inl (bz_iload 3 1)) :: (24, .inr (.inl (mX10_isPlace, 1, 0))) :: (27, .inl (bz_if_eq 77)) :: (30, .inl (bz_aload 2 1)) :: (31, .inl (bz_iload 3 1)) ::
  (32, .inl (bz_iload 4 2)) :: (34, .inr (.inl (mX7_walk, 3, 7))) :: (37, .inl (bz_aload 1 1)) :: (38, .inl (bz_aload 2 1)) :: (39, .inr (.inl (mX4_allFit, 2, 4))) :: (42, .inl (bz_if_eq 71)) ::
  (45, .inl (bz_aload 0 1)) :: (46, .inl (bz_getR 8 0)) :: (49, .inl (bz_aload 0 1)) :: (50, .inl (bz_getI 8 1)) :: (53, .inl (bz_push (.int 10) 2)) :: (55, .inl (bz_iload 3 1)) ::
  (56, .inl (bz_imul)) :: (57, .inl (bz_iload 4 2)) :: (59, .inl (bz_iadd)) :: (60, .inl (bz_iast)) :: (61, .inl (bz_aload 0 1)) :: (62, .inl (bz_dup)) ::
  (63, .inl (bz_getI 8 1)) :: (66, .inl (bz_push (.int 1) 1)) :: (67, .inl (bz_iadd)) :: (68, .inl (bz_putI 8 1)) :: (71, .inl (bz_iinc 4 1)) :: (74, .inl (bz_goto 16)) ::
  (77, .inl (bz_iinc 3 1)) :: (80, .inl (bz_goto 7)) :: (83, .inr (.inr 0)) :: []
def bm_X9_gather : bz_M := (RX9, yX9_gather, cX9_gather, 5, none, 3, 65, bt_X9_gather)
def bt_X9_countLeft : List bz_E := (0, .inl (bz_push (.int 0) 1)) :: (1, .inl (bz_istore 2 1)) :: (2, .inl (bz_iload 2 1)) :: (3, .inl (bz_push (.int 720) 3)) :: (6, .inl (bz_ic_ge 22)) :: (9, .inl (bz_aload 0 1)) ::
  (10, .inl (bz_getR 8 4)) :: (13, .inl (bz_iload 2 1)) :: (14, .inl (bz_push (.int 0) 1)) :: (15, .inl (bz_iast)) :: (16, .inl (bz_iinc 2 1)) :: (19, .inl (bz_goto 2)) ::
  (22, .inl (bz_push (.int 0) 1)) :: (23, .inl (bz_istore 2 1)) :: (24, .inl (bz_iload 2 1)) :: (25, .inl (bz_aload 0 1)) :: (26, .inl (bz_getI 8 1)) :: (29, .inl (bz_ic_ge 93)) ::
  (32, .inl (bz_aload 1 1)) :: (33, .inl (bz_aload 0 1)) :: (34, .inl (bz_getR 8 0)) :: (37, .inl (bz_iload 2 1)) :: (38, .inl (bz_iald)) :: (39, .inl (bz_push (.int 10) 2)) ::
  (41, .inl (bz_idiv)) :: (42, .inl (bz_aload 0 1)) :: (43, .inl (bz_getR 8 0)) :: (46, .inl (bz_iload 2 1)) :: (47, .inl (bz_iald)) :: (48, .inl (bz_push (.int 10) 2)) ::
  (50, .inl (bz_irem)) :: (51, .inr (.inl (mX7_walk, 3, 7))) :: (54, .inl (bz_push (.int 0) 1)) :: (55, .inl (bz_istore 3 1)) :: (56, .inl (bz_iload 3 1)) :: (57, .inl (bz_push (.int 16) 2)) ::
  (59, .inl (bz_ic_ge 87)) :: (62, .inl (bz_aload 0 1)) :: (63, .inl (bz_getR 8 4)) :: (66, .inl (bz_iload 3 1)) :: (67, .inl (bz_push (.int 45) 2)) :: (69, .inl (bz_imul)) ::
  (70, .inl (bz_aload 1 1)) :: (71, .inl (bz_iload 3 1)) :: (72, .inr (.inl (mX7_cellBehind, 2, 7))) :: (75, .inl (bz_iadd)) :: (76, .inl (bz_dup2)) :: (77, .inl (bz_iald)) ::
  (78, .inl (bz_push (.int 1) 1)) :: (79, .inl (bz_iadd)) :: (80, .inl (bz_iast)) :: (81, .inl (bz_iinc 3 1)) :: (84, .inl (bz_goto 56)) :: (87, .inl (bz_iinc 2 1)) ::
  (90, .inl (bz_goto 24)) :: (93, .inr (.inr 0)) :: []
def bm_X9_countLeft : bz_M := (RX9, yX9_countLeft, cX9_countLeft, 4, none, 2, 49, bt_X9_countLeft)
def bt_J9_max_7cf53 : List bz_E := (0, .inl (bz_iload 0 1)) :: (1, .inl (bz_iload 1 1)) :: (2, .inl (bz_ic_lt 9)) :: (5, .inl (bz_iload 0 1)) :: (6, .inl (bz_goto 10)) :: (9, .inl (bz_iload 1 1)) ::
  (10, .inr (.inr 1)) :: []
def bm_J9_max_7cf53 : bz_M := (RJ9, yJ9_max_7cf53, cJ9_max_7cf53, 2, (some .int), 0, 0, bt_J9_max_7cf53)
def bt_X9_mostLeftAt : List bz_E := (0, .inl (bz_push (.int 0) 1)) :: (1, .inl (bz_istore 2 1)) :: (2, .inl (bz_push (.int 0) 1)) :: (3, .inl (bz_istore 3 1)) :: (4, .inl (bz_iload 3 1)) :: (5, .inl (bz_push (.int 45) 2)) ::
  (7, .inl (bz_ic_ge 32)) :: (10, .inl (bz_iload 2 1)) :: (11, .inl (bz_aload 0 1)) :: (12, .inl (bz_getR 8 4)) :: (15, .inl (bz_iload 1 1)) :: (16, .inl (bz_push (.int 45) 2)) ::
  (18, .inl (bz_imul)) :: (19, .inl (bz_iload 3 1)) :: (20, .inl (bz_iadd)) :: (21, .inl (bz_iald)) :: (22, .inr (.inl (mJ9_max_7cf53, 2, 0))) :: (25, .inl (bz_istore 2 1)) ::
  (26, .inl (bz_iinc 3 1)) :: (29, .inl (bz_goto 4)) :: (32, .inl (bz_iload 2 1)) :: (33, .inr (.inr 1)) :: []
def bm_X9_mostLeftAt : bz_M := (RX9, yX9_mostLeftAt, cX9_mostLeftAt, 4, (some .int), 1, 21, bt_X9_mostLeftAt)
def bt_X9_chooseStep : List bz_E := (0, .inl (bz_aload 0 1)) :: (1, .inl (bz_aload 1 1)) :: (2, .inr (.inl (mX9_countLeft, 2, 9))) :: (5, .inl (bz_aload 0 1)) :: (6, .inl (bz_push (.int (-6)) 2)) :: (8, .inl (bz_putI 8 2)) ::
  (11, .inl (bz_aload 0 1)) :: (12, .inl (bz_push (.int (-6)) 2)) :: (14, .inl (bz_putI 8 3)) :: (17, .inl (bz_push (.int 0) 1)) :: (18, .inl (bz_istore 2 1)) :: (19, .inl (bz_iload 2 1)) ::
  (20, .inl (bz_push (.int 16) 2)) :: (22, .inl (bz_ic_ge 64)) :: (25, .inl (bz_aload 0 1)) :: (26, .inl (bz_iload 2 1)) :: (27, .inr (.inl (mX9_mostLeftAt, 2, 9))) :: (30, .inl (bz_istore 3 1)) ::
  (31, .inl (bz_aload 0 1)) :: (32, .inl (bz_getI 8 2)) :: (35, .inl (bz_push (.int (-6)) 2)) :: (37, .inl (bz_ic_eq 48)) :: (40, .inl (bz_iload 3 1)) :: (41, .inl (bz_aload 0 1)) ::
  (42, .inl (bz_getI 8 3)) :: (45, .inl (bz_ic_ge 58)) :: (48, .inl (bz_aload 0 1)) :: (49, .inl (bz_iload 2 1)) :: (50, .inl (bz_putI 8 2)) :: (53, .inl (bz_aload 0 1)) ::
  (54, .inl (bz_iload 3 1)) :: (55, .inl (bz_putI 8 3)) :: (58, .inl (bz_iinc 2 1)) :: (61, .inl (bz_goto 19)) :: (64, .inr (.inr 0)) :: []
def bm_X9_chooseStep : bz_M := (RX9, yX9_chooseStep, cX9_chooseStep, 4, none, 3, 72, bt_X9_chooseStep)
def bt_X10_ball : List bz_E := (0, .inl (bz_iload 1 1)) :: (1, .inr (.inl (mX10_isBall, 1, 0))) :: (4, .inl (bz_if_eq 19)) :: (7, .inl (bz_iload 2 1)) :: (8, .inl (bz_push (.int (-1)) 1)) :: (9, .inl (bz_ic_eq 21)) ::
  (12, .inl (bz_iload 2 1)) :: (13, .inr (.inl (mX10_isPlace, 1, 0))) :: (16, .inl (bz_if_ne 21)) :: (19, .inl (bz_push (.int (-1)) 1)) :: (20, .inr (.inr 1)) :: (21, .inl (bz_aload 0 1)) ::
  (22, .inl (bz_getR 9 0)) :: (25, .inl (bz_iload 2 1)) :: (26, .inr (.inl (mX6_lyingOn, 2, 6))) :: (29, .inl (bz_istore 3 1)) :: (30, .inl (bz_iload 2 1)) :: (31, .inl (bz_push (.int (-1)) 1)) ::
  (32, .inl (bz_ic_eq 48)) :: (35, .inl (bz_iload 3 1)) :: (36, .inl (bz_push (.int (-1)) 1)) :: (37, .inl (bz_ic_eq 48)) :: (40, .inl (bz_iload 3 1)) :: (41, .inl (bz_iload 1 1)) ::
  (42, .inl (bz_ic_eq 48)) :: (45, .inl (bz_push (.int (-3)) 2)) :: (47, .inr (.inr 1)) :: (48, .inl (bz_aload 0 1)) :: (49, .inl (bz_getR 9 0)) :: (52, .inl (bz_iload 1 1)) ::
  (53, .inr (.inl (mX6_cellOrNone, 2, 6))) :: (56, .inl (bz_istore 4 2)) :: (58, .inl (bz_aload 0 1)) :: (59, .inl (bz_getR 9 0)) :: (62, .inl (bz_getR 5 0)) :: (65, .inl (bz_iload 1 1)) ::
  (66, .inl (bz_iload 2 1)) :: (67, .inl (bz_iast)) :: (68, .inl (bz_iload 4 2)) :: (70, .inr (.inr 1)) :: []
def bm_X10_ball : bz_M := (RX10, yX10_ball, cX10_ball, 5, (some .int), 3, 62, bt_X10_ball)
def bt_X10_score : List bz_E := (0, .inl (bz_iload 1 1)) :: (1, .inl (bz_push (.int 0) 1)) :: (2, .inl (bz_push (.int 99) 2)) :: (4, .inr (.inl (mX10_isWithin, 3, 0))) :: (7, .inl (bz_if_eq 20)) :: (10, .inl (bz_iload 2 1)) ::
  (11, .inl (bz_push (.int 0) 1)) :: (12, .inl (bz_push (.int 99) 2)) :: (14, .inr (.inl (mX10_isWithin, 3, 0))) :: (17, .inl (bz_if_ne 23)) :: (20, .inl (bz_push (.int (-2)) 2)) :: (22, .inr (.inr 1)) ::
  (23, .inl (bz_push (.int 100) 2)) :: (25, .inl (bz_aload 0 1)) :: (26, .inl (bz_getR 9 0)) :: (29, .inl (bz_getI 5 1)) :: (32, .inl (bz_imul)) :: (33, .inl (bz_aload 0 1)) ::
  (34, .inl (bz_getR 9 0)) :: (37, .inl (bz_getI 5 2)) :: (40, .inl (bz_iadd)) :: (41, .inl (bz_istore 3 1)) :: (42, .inl (bz_aload 0 1)) :: (43, .inl (bz_getR 9 0)) ::
  (46, .inl (bz_iload 1 1)) :: (47, .inl (bz_putI 5 1)) :: (50, .inl (bz_aload 0 1)) :: (51, .inl (bz_getR 9 0)) :: (54, .inl (bz_iload 2 1)) :: (55, .inl (bz_putI 5 2)) ::
  (58, .inl (bz_iload 3 1)) :: (59, .inr (.inr 1)) :: []
def bm_X10_score : bz_M := (RX10, yX10_score, cX10_score, 4, (some .int), 1, 22, bt_X10_score)
def bt_X10_say : List bz_E := (0, .inl (bz_iload 1 1)) :: (1, .inl (bz_push (.int 33) 2)) :: (3, .inl (bz_push (.int 126) 2)) :: (5, .inr (.inl (mX10_isWithin, 3, 0))) :: (8, .inl (bz_if_ne 14)) :: (11, .inl (bz_push (.int (-2)) 2)) ::
  (13, .inr (.inr 1)) :: (14, .inl (bz_aload 0 1)) :: (15, .inl (bz_getR 9 2)) :: (18, .inl (bz_iload 1 1)) :: (19, .inr (.inl (mX3_add, 2, 3))) :: (22, .inl (bz_if_eq 35)) ::
  (25, .inl (bz_aload 0 1)) :: (26, .inl (bz_getR 9 2)) :: (29, .inl (bz_getI 2 1)) :: (32, .inl (bz_goto 37)) :: (35, .inl (bz_push (.int (-4)) 2)) :: (37, .inr (.inr 1)) :: []
def bm_X10_say : bz_M := (RX10, yX10_say, cX10_say, 2, (some .int), 1, 22, bt_X10_say)
def bt_X10_wipe : List bz_E := (0, .inl (bz_aload 0 1)) :: (1, .inl (bz_getR 9 2)) :: (4, .inr (.inl (mX3_empty, 1, 3))) :: (7, .inr (.inr 1)) :: []
def bm_X10_wipe : bz_M := (RX10, yX10_wipe, cX10_wipe, 1, (some .int), 1, 21, bt_X10_wipe)
def bt_X10_fault : List bz_E := (0, .inl (bz_aload 0 1)) :: (1, .inl (bz_getR 9 2)) :: (4, .inr (.inl (mX3_firstFault, 1, 3))) :: (7, .inr (.inr 1)) :: []
def bm_X10_fault : bz_M := (RX10, yX10_fault, cX10_fault, 1, (some .int), 4, 86, bt_X10_fault)
def bt_X10_tryText : List bz_E := (0, .inl (bz_aload 0 1)) :: (1, .inl (bz_getR 9 2)) :: (4, .inr (.inl (mX3_firstFault, 1, 3))) :: (7, .inl (bz_push (.int (-6)) 2)) :: (9, .inl (bz_ic_eq 15)) :: (12, .inl (bz_push (.int (-5)) 2)) ::
  (14, .inr (.inr 1)) :: (15, .inl (bz_aload 0 1)) :: (16, .inl (bz_getR 9 3)) :: (19, .inl (bz_aload 0 1)) :: (20, .inl (bz_getR 9 2)) :: (23, .inl (bz_aload 0 1)) ::
  (24, .inl (bz_getR 9 0)) :: (27, .inr (.inl (mX8_runText, 3, 8))) :: (30, .inl (bz_aload 0 1)) :: (31, .inl (bz_getR 9 3)) :: (34, .inl (bz_getI 7 3)) :: (37, .inl (bz_push (.int (-6)) 2)) ::
  (39, .inl (bz_ic_ne 46)) :: (42, .inl (bz_push (.int 0) 1)) :: (43, .inl (bz_goto 48)) :: (46, .inl (bz_push (.int (-3)) 2)) :: (48, .inr (.inr 1)) :: []
def bm_X10_tryText : bz_M := (RX10, yX10_tryText, cX10_tryText, 1, (some .int), 5, 128, bt_X10_tryText)
def bt_X10_judge : List bz_E := (0, .inl (bz_iload 1 1)) :: (1, .inl (bz_push (.int 0) 1)) :: (2, .inl (bz_push (.int 2) 1)) :: (3, .inr (.inl (mX10_isWithin, 3, 0))) :: (6, .inl (bz_if_ne 12)) :: (9, .inl (bz_push (.int (-2)) 2)) ::
  (11, .inr (.inr 1)) :: (12, .inl (bz_aload 0 1)) :: (13, .inr (.inl (mX10_tryText, 1, 10))) :: (16, .inl (bz_istore 2 1)) :: (17, .inl (bz_iload 2 1)) :: (18, .inl (bz_push (.int (-5)) 2)) ::
  (20, .inl (bz_ic_eq 34)) :: (23, .inl (bz_iload 2 1)) :: (24, .inl (bz_push (.int (-3)) 2)) :: (26, .inl (bz_ic_ne 36)) :: (29, .inl (bz_iload 1 1)) :: (30, .inl (bz_push (.int 2) 1)) ::
  (31, .inl (bz_ic_ne 36)) :: (34, .inl (bz_iload 2 1)) :: (35, .inr (.inr 1)) :: (36, .inl (bz_iload 1 1)) :: (37, .inl (bz_switch [(0, 64), (1, 72)] 80)) :: (64, .inl (bz_aload 0 1)) ::
  (65, .inl (bz_getR 9 3)) :: (68, .inl (bz_getI 7 3)) :: (71, .inr (.inr 1)) :: (72, .inl (bz_aload 0 1)) :: (73, .inl (bz_getR 9 3)) :: (76, .inl (bz_getI 7 4)) ::
  (79, .inr (.inr 1)) :: (80, .inl (bz_aload 0 1)) :: (81, .inl (bz_getR 9 3)) :: (84, .inl (bz_getI 7 5)) :: (87, .inr (.inr 1)) :: []
def bm_X10_judge : bz_M := (RX10, yX10_judge, cX10_judge, 3, (some .int), 6, 148, bt_X10_judge)
def bt_X10_behind : List bz_E := (0, .inl (bz_iload 1 1)) :: (1, .inr (.inl (mX10_isBall, 1, 0))) :: (4, .inl (bz_if_ne 9)) :: (7, .inl (bz_push (.int (-1)) 1)) :: (8, .inr (.inr 1)) :: (9, .inl (bz_aload 0 1)) ::
  (10, .inr (.inl (mX10_tryText, 1, 10))) :: (13, .inl (bz_istore 2 1)) :: (14, .inl (bz_iload 2 1)) :: (15, .inl (bz_if_eq 22)) :: (18, .inl (bz_iload 2 1)) :: (19, .inl (bz_goto 33)) ::
  (22, .inl (bz_aload 0 1)) :: (23, .inl (bz_getR 9 3)) :: (26, .inl (bz_getR 7 0)) :: (29, .inl (bz_iload 1 1)) :: (30, .inr (.inl (mX6_cellOrNone, 2, 6))) :: (33, .inr (.inr 1)) :: []
def bm_X10_behind : bz_M := (RX10, yX10_behind, cX10_behind, 3, (some .int), 6, 148, bt_X10_behind)
def bt_X10_table : List bz_E := (0, .inl (bz_iload 1 1)) :: (1, .inl (bz_push (.int 0) 1)) :: (2, .inl (bz_push (.int 3) 1)) :: (3, .inr (.inl (mX10_isWithin, 3, 0))) :: (6, .inl (bz_if_ne 12)) :: (9, .inl (bz_push (.int (-2)) 2)) ::
  (11, .inr (.inr 1)) :: (12, .inl (bz_aload 0 1)) :: (13, .inr (.inl (mX10_tryText, 1, 10))) :: (16, .inl (bz_istore 2 1)) :: (17, .inl (bz_iload 2 1)) :: (18, .inl (bz_if_eq 23)) ::
  (21, .inl (bz_iload 2 1)) :: (22, .inr (.inr 1)) :: (23, .inl (bz_iload 1 1)) :: (24, .inl (bz_switch (bz_mk 0 [52, 63, 74]) 85)) :: (52, .inl (bz_aload 0 1)) :: (53, .inl (bz_getR 9 3)) ::
  (56, .inl (bz_getR 7 0)) :: (59, .inl (bz_getI 5 1)) :: (62, .inr (.inr 1)) :: (63, .inl (bz_aload 0 1)) :: (64, .inl (bz_getR 9 3)) :: (67, .inl (bz_getR 7 0)) ::
  (70, .inl (bz_getI 5 2)) :: (73, .inr (.inr 1)) :: (74, .inl (bz_aload 0 1)) :: (75, .inl (bz_getR 9 3)) :: (78, .inl (bz_getR 7 0)) :: (81, .inr (.inl (mX6_howManyDown, 1, 6))) ::
  (84, .inr (.inr 1)) :: (85, .inl (bz_aload 0 1)) :: (86, .inl (bz_getR 9 3)) :: (89, .inl (bz_getR 7 0)) :: (92, .inl (bz_getI 5 3)) :: (95, .inr (.inr 1)) :: []
def bm_X10_table : bz_M := (RX10, yX10_table, cX10_table, 3, (some .int), 6, 148, bt_X10_table)
def bt_X10_candour : List bz_E := (0, .inl (bz_iload 1 1)) :: (1, .inl (bz_push (.int 0) 1)) :: (2, .inl (bz_push (.int 1) 1)) :: (3, .inr (.inl (mX10_isWithin, 3, 0))) :: (6, .inl (bz_if_ne 12)) :: (9, .inl (bz_push (.int (-2)) 2)) ::
  (11, .inr (.inr 1)) :: (12, .inl (bz_aload 0 1)) :: (13, .inr (.inl (mX10_tryText, 1, 10))) :: (16, .inl (bz_istore 2 1)) :: (17, .inl (bz_iload 2 1)) :: (18, .inl (bz_if_eq 23)) ::
  (21, .inl (bz_iload 2 1)) :: (22, .inr (.inr 1)) :: (23, .inl (bz_iload 1 1)) :: (24, .inl (bz_if_ne 37)) :: (27, .inl (bz_aload 0 1)) :: (28, .inl (bz_getR 9 3)) ::
  (31, .inl (bz_getI 7 7)) :: (34, .inl (bz_goto 44)) :: (37, .inl (bz_aload 0 1)) :: (38, .inl (bz_getR 9 3)) :: (41, .inl (bz_getI 7 6)) :: (44, .inr (.inr 1)) :: []
def bm_X10_candour : bz_M := (RX10, yX10_candour, cX10_candour, 3, (some .int), 6, 148, bt_X10_candour)
def bt_X10_done : List bz_E := (0, .inl (bz_aload 0 1)) :: (1, .inr (.inl (mX10_tryText, 1, 10))) :: (4, .inl (bz_istore 1 1)) :: (5, .inl (bz_iload 1 1)) :: (6, .inl (bz_if_eq 11)) :: (9, .inl (bz_iload 1 1)) ::
  (10, .inr (.inr 1)) :: (11, .inl (bz_aload 0 1)) :: (12, .inl (bz_getR 9 0)) :: (15, .inl (bz_aload 0 1)) :: (16, .inl (bz_getR 9 3)) :: (19, .inl (bz_getR 7 0)) ::
  (22, .inr (.inl (mX6_copy, 2, 6))) :: (25, .inl (bz_aload 0 1)) :: (26, .inl (bz_getR 9 2)) :: (29, .inr (.inl (mX3_empty, 1, 3))) :: (32, .inl (bz_pop1)) :: (33, .inl (bz_aload 0 1)) ::
  (34, .inl (bz_getR 9 3)) :: (37, .inl (bz_getI 7 2)) :: (40, .inr (.inr 1)) :: []
def bm_X10_done : bz_M := (RX10, yX10_done, cX10_done, 2, (some .int), 6, 148, bt_X10_done)
def bt_X10_hint : List bz_E := (0, .inl (bz_iload 1 1)) :: (1, .inr (.inl (mX10_isBall, 1, 0))) :: (4, .inl (bz_if_eq 19)) :: (7, .inl (bz_iload 2 1)) :: (8, .inr (.inl (mX10_isBall, 1, 0))) :: (11, .inl (bz_if_eq 19)) ::
  (14, .inl (bz_iload 1 1)) :: (15, .inl (bz_iload 2 1)) :: (16, .inl (bz_ic_ne 21)) :: (19, .inl (bz_push (.int (-1)) 1)) :: (20, .inr (.inr 1)) :: (21, .inl (bz_iload 3 1)) ::
  (22, .inl (bz_push (.int 0) 1)) :: (23, .inl (bz_push (.int 4) 1)) :: (24, .inr (.inl (mX10_isWithin, 3, 0))) :: (27, .inl (bz_if_eq 40)) :: (30, .inl (bz_iload 4 2)) :: (32, .inl (bz_push (.int 0) 1)) ::
  (33, .inl (bz_push (.int 1) 1)) :: (34, .inr (.inl (mX10_isWithin, 3, 0))) :: (37, .inl (bz_if_ne 43)) :: (40, .inl (bz_push (.int (-2)) 2)) :: (42, .inr (.inr 1)) :: (43, .inl (bz_aload 0 1)) ::
  (44, .inl (bz_getR 9 0)) :: (47, .inl (bz_iload 1 1)) :: (48, .inr (.inl (mX6_isDown, 2, 6))) :: (51, .inl (bz_if_ne 65)) :: (54, .inl (bz_aload 0 1)) :: (55, .inl (bz_getR 9 0)) ::
  (58, .inl (bz_iload 2 1)) :: (59, .inr (.inl (mX6_isDown, 2, 6))) :: (62, .inl (bz_if_eq 68)) :: (65, .inl (bz_push (.int (-6)) 2)) :: (67, .inr (.inr 1)) :: (68, .inl (bz_push (.int (-6)) 2)) ::
  (70, .inl (bz_istore 5 2)) :: (72, .inl (bz_push (.int (-6)) 2)) :: (74, .inl (bz_istore 6 2)) :: (76, .inl (bz_push (.int 0) 1)) :: (77, .inl (bz_istore 7 2)) :: (79, .inl (bz_iload 7 2)) ::
  (81, .inl (bz_push (.int 8) 2)) :: (83, .inl (bz_ic_ge 139)) :: (86, .inl (bz_aload 0 1)) :: (87, .inl (bz_getR 9 3)) :: (90, .inl (bz_aload 0 1)) :: (91, .inl (bz_getR 9 0)) ::
  (94, .inl (bz_iload 1 1)) :: (95, .inl (bz_iload 7 2)) :: (97, .inl (bz_iload 2 1)) :: (98, .inl (bz_iload 3 1)) :: (99, .inr (.inl (mX8_forceToTouch, 6, 8))) :: (102, .inl (bz_istore 8 2)) ::
  (104, .inl (bz_iload 8 2)) :: (106, .inl (bz_push (.int (-6)) 2)) :: (108, .inl (bz_ic_eq 133)) :: (111, .inl (bz_iload 5 2)) :: (113, .inl (bz_push (.int (-6)) 2)) :: (115, .inl (bz_ic_eq 125)) ::
  (118, .inl (bz_iload 8 2)) :: (120, .inl (bz_iload 5 2)) :: (122, .inl (bz_ic_ge 133)) :: (125, .inl (bz_iload 8 2)) :: (127, .inl (bz_istore 5 2)) :: (129, .inl (bz_iload 7 2)) ::
  (131, .inl (bz_istore 6 2)) :: (133, .inl (bz_iinc 7 1)) :: (136, .inl (bz_goto 79)) :: (139, .inl (bz_iload 4 2)) :: (141, .inl (bz_if_ne 149)) :: (144, .inl (bz_iload 5 2)) ::
  (146, .inl (bz_goto 151)) :: (149, .inl (bz_iload 6 2)) :: (151, .inr (.inr 1)) :: []
def bm_X10_hint : bz_M := (RX10, yX10_hint, cX10_hint, 9, (some .int), 3, 80, bt_X10_hint)
def bt_J13_bitCount_95d88 : List bz_E := (0, .inl (bz_lload 0 1)) :: (1, .inl (bz_lload 0 1)) :: (2, .inl (bz_push (.int 1) 1)) :: (3, .inl (bz_lushr)) :: (4, .inl (bz_push (.long 6148914691236517205) 3)) :: (7, .inl (bz_land)) ::
  (8, .inl (bz_lsub)) :: (9, .inl (bz_lstore 0 1)) :: (10, .inl (bz_lload 0 1)) :: (11, .inl (bz_push (.long 3689348814741910323) 3)) :: (14, .inl (bz_land)) :: (15, .inl (bz_lload 0 1)) ::
  (16, .inl (bz_push (.int 2) 1)) :: (17, .inl (bz_lushr)) :: (18, .inl (bz_push (.long 3689348814741910323) 3)) :: (21, .inl (bz_land)) :: (22, .inl (bz_ladd)) :: (23, .inl (bz_lstore 0 1)) ::
  (24, .inl (bz_lload 0 1)) :: (25, .inl (bz_lload 0 1)) :: (26, .inl (bz_push (.int 4) 1)) :: (27, .inl (bz_lushr)) :: (28, .inl (bz_ladd)) :: (29, .inl (bz_push (.long 1085102592571150095) 3)) ::
  (32, .inl (bz_land)) :: (33, .inl (bz_lstore 0 1)) :: (34, .inl (bz_lload 0 1)) :: (35, .inl (bz_lload 0 1)) :: (36, .inl (bz_push (.int 8) 2)) :: (38, .inl (bz_lushr)) ::
  (39, .inl (bz_ladd)) :: (40, .inl (bz_lstore 0 1)) :: (41, .inl (bz_lload 0 1)) :: (42, .inl (bz_lload 0 1)) :: (43, .inl (bz_push (.int 16) 2)) :: (45, .inl (bz_lushr)) ::
  (46, .inl (bz_ladd)) :: (47, .inl (bz_lstore 0 1)) :: (48, .inl (bz_lload 0 1)) :: (49, .inl (bz_lload 0 1)) :: (50, .inl (bz_push (.int 32) 2)) :: (52, .inl (bz_lushr)) ::
  (53, .inl (bz_ladd)) :: (54, .inl (bz_lstore 0 1)) :: (55, .inl (bz_lload 0 1)) :: (56, .inl (bz_l2i)) :: (57, .inl (bz_push (.int 127) 2)) :: (59, .inl (bz_iand)) ::
  (60, .inr (.inr 1)) :: []
def bm_J13_bitCount_95d88 : bz_M := (RJ13, yJ13_bitCount_95d88, cJ13_bitCount_95d88, 2, (some .int), 0, 0, bt_J13_bitCount_95d88)
def bt_X10_alone : List bz_E := (0, .inl (bz_iload 1 1)) :: (1, .inr (.inl (mX10_isPlace, 1, 0))) :: (4, .inl (bz_if_ne 9)) :: (7, .inl (bz_push (.int (-1)) 1)) :: (8, .inr (.inr 1)) :: (9, .inl (bz_iload 2 1)) ::
  (10, .inl (bz_push (.int 0) 1)) :: (11, .inl (bz_push (.int 7) 2)) :: (13, .inr (.inl (mX10_isWithin, 3, 0))) :: (16, .inl (bz_if_eq 39)) :: (19, .inl (bz_iload 3 1)) :: (20, .inl (bz_push (.int 0) 1)) ::
  (21, .inl (bz_push (.int 99999) 2)) :: (23, .inr (.inl (mX10_isWithin, 3, 0))) :: (26, .inl (bz_if_eq 39)) :: (29, .inl (bz_iload 4 2)) :: (31, .inl (bz_push (.int 0) 1)) :: (32, .inl (bz_push (.int 2) 1)) ::
  (33, .inr (.inl (mX10_isWithin, 3, 0))) :: (36, .inl (bz_if_ne 42)) :: (39, .inl (bz_push (.int (-2)) 2)) :: (41, .inr (.inr 1)) :: (42, .inl (bz_aload 0 1)) :: (43, .inl (bz_getR 9 4)) ::
  (46, .inl (bz_iload 1 1)) :: (47, .inl (bz_iload 2 1)) :: (48, .inr (.inl (mX7_walk, 3, 7))) :: (51, .inl (bz_iload 4 2)) :: (53, .inl (bz_switch [(0, 80), (1, 89)] 97)) :: (80, .inl (bz_aload 0 1)) ::
  (81, .inl (bz_getR 9 4)) :: (84, .inl (bz_iload 3 1)) :: (85, .inr (.inl (mX7_cellBehind, 2, 7))) :: (88, .inr (.inr 1)) :: (89, .inl (bz_aload 0 1)) :: (90, .inl (bz_getR 9 4)) ::
  (93, .inl (bz_getI 6 1)) :: (96, .inr (.inr 1)) :: (97, .inl (bz_aload 0 1)) :: (98, .inl (bz_getR 9 4)) :: (101, .inl (bz_getL 6 2)) :: (104, .inr (.inl (mJ13_bitCount_95d88, 1, 0))) ::
  (107, .inr (.inr 1)) :: []
def bm_X10_alone : bz_M := (RX10, yX10_alone, cX10_alone, 5, (some .int), 3, 62, bt_X10_alone)
def bt_X10_reachOf : List bz_E := (0, .inl (bz_push (.long 0) 1)) :: (1, .inl (bz_lstore 2 1)) :: (2, .inl (bz_iload 0 1)) :: (3, .inl (bz_istore 4 2)) :: (5, .inl (bz_iload 1 1)) :: (6, .inl (bz_istore 5 2)) ::
  (8, .inl (bz_push (.int 1) 1)) :: (9, .inl (bz_istore 6 2)) :: (11, .inl (bz_iload 6 2)) :: (13, .inl (bz_push (.int 9) 2)) :: (15, .inl (bz_ic_gt 60)) :: (18, .inl (bz_iload 4 2)) ::
  (20, .inl (bz_iload 5 2)) :: (22, .inr (.inl (mX10_turned, 2, 0))) :: (25, .inl (bz_istore 5 2)) :: (27, .inl (bz_iload 4 2)) :: (29, .inl (bz_iload 5 2)) :: (31, .inr (.inl (mX10_next, 2, 0))) ::
  (34, .inl (bz_istore 4 2)) :: (36, .inl (bz_iload 4 2)) :: (38, .inr (.inl (mX10_isPocket, 1, 0))) :: (41, .inl (bz_if_eq 46)) :: (44, .inl (bz_lload 2 1)) :: (45, .inr (.inr 2)) ::
  (46, .inl (bz_lload 2 1)) :: (47, .inl (bz_iload 4 2)) :: (49, .inr (.inl (mX10_bit, 1, 0))) :: (52, .inl (bz_lor)) :: (53, .inl (bz_lstore 2 1)) :: (54, .inl (bz_iinc 6 1)) ::
  (57, .inl (bz_goto 11)) :: (60, .inl (bz_lload 2 1)) :: (61, .inr (.inr 2)) :: []
def bm_X10_reachOf : bz_M := (RX10, yX10_reachOf, cX10_reachOf, 7, (some .long), 1, 24, bt_X10_reachOf)
def bt_X10_firstWayInto : List bz_E := (0, .inl (bz_push (.int 0) 1)) :: (1, .inl (bz_istore 3 1)) :: (2, .inl (bz_iload 3 1)) :: (3, .inl (bz_push (.int 8) 2)) :: (5, .inl (bz_ic_ge 28)) :: (8, .inl (bz_iload 0 1)) ::
  (9, .inl (bz_iload 3 1)) :: (10, .inr (.inl (mX10_reachOf, 2, 0))) :: (13, .inl (bz_lload 1 1)) :: (14, .inl (bz_land)) :: (15, .inl (bz_push (.long 0) 1)) :: (16, .inl (bz_lcmp)) ::
  (17, .inl (bz_if_eq 22)) :: (20, .inl (bz_iload 3 1)) :: (21, .inr (.inr 1)) :: (22, .inl (bz_iinc 3 1)) :: (25, .inl (bz_goto 2)) :: (28, .inl (bz_push (.int (-6)) 2)) ::
  (30, .inr (.inr 1)) :: []
def bm_X10_firstWayInto : bz_M := (RX10, yX10_firstWayInto, cX10_firstWayInto, 4, (some .int), 2, 50, bt_X10_firstWayInto)
def bt_X10_withAllThatReach : List bz_E := (0, .inl (bz_lload 0 1)) :: (1, .inl (bz_lstore 2 1)) :: (2, .inl (bz_push (.int 0) 1)) :: (3, .inl (bz_istore 4 2)) :: (5, .inl (bz_iload 4 2)) :: (7, .inl (bz_push (.int 45) 2)) ::
  (9, .inl (bz_ic_ge 45)) :: (12, .inl (bz_iload 4 2)) :: (14, .inr (.inl (mX10_isPlace, 1, 0))) :: (17, .inl (bz_if_eq 39)) :: (20, .inl (bz_iload 4 2)) :: (22, .inl (bz_lload 0 1)) ::
  (23, .inr (.inl (mX10_firstWayInto, 2, 0))) :: (26, .inl (bz_push (.int (-6)) 2)) :: (28, .inl (bz_ic_eq 39)) :: (31, .inl (bz_lload 2 1)) :: (32, .inl (bz_iload 4 2)) :: (34, .inr (.inl (mX10_bit, 1, 0))) ::
  (37, .inl (bz_lor)) :: (38, .inl (bz_lstore 2 1)) :: (39, .inl (bz_iinc 4 1)) :: (42, .inl (bz_goto 5)) :: (45, .inl (bz_lload 2 1)) :: (46, .inr (.inr 2)) :: []
def bm_X10_withAllThatReach : bz_M := (RX10, yX10_withAllThatReach, cX10_withAllThatReach, 5, (some .long), 3, 73, bt_X10_withAllThatReach)
def bt_X10_strokes : List bz_E := (0, .inl (bz_iload 1 1)) :: (1, .inr (.inl (mX10_isPlace, 1, 0))) :: (4, .inl (bz_if_eq 14)) :: (7, .inl (bz_iload 2 1)) :: (8, .inr (.inl (mX10_isPlace, 1, 0))) :: (11, .inl (bz_if_ne 16)) ::
  (14, .inl (bz_push (.int (-1)) 1)) :: (15, .inr (.inr 1)) :: (16, .inl (bz_iload 3 1)) :: (17, .inl (bz_push (.int 0) 1)) :: (18, .inl (bz_push (.int 1) 1)) :: (19, .inr (.inl (mX10_isWithin, 3, 0))) ::
  (22, .inl (bz_if_ne 28)) :: (25, .inl (bz_push (.int (-2)) 2)) :: (27, .inr (.inr 1)) :: (28, .inl (bz_iload 1 1)) :: (29, .inl (bz_iload 2 1)) :: (30, .inl (bz_ic_ne 44)) ::
  (33, .inl (bz_iload 3 1)) :: (34, .inl (bz_if_ne 41)) :: (37, .inl (bz_push (.int 0) 1)) :: (38, .inl (bz_goto 43)) :: (41, .inl (bz_push (.int (-6)) 2)) :: (43, .inr (.inr 1)) ::
  (44, .inl (bz_iload 2 1)) :: (45, .inr (.inl (mX10_bit, 1, 0))) :: (48, .inl (bz_lstore 4 2)) :: (50, .inl (bz_push (.int 1) 1)) :: (51, .inl (bz_istore 6 2)) :: (53, .inl (bz_iload 6 2)) ::
  (55, .inl (bz_push (.int 45) 2)) :: (57, .inl (bz_ic_ge 100)) :: (60, .inl (bz_iload 1 1)) :: (61, .inl (bz_lload 4 2)) :: (63, .inr (.inl (mX10_firstWayInto, 2, 0))) :: (66, .inl (bz_istore 7 2)) ::
  (68, .inl (bz_iload 7 2)) :: (70, .inl (bz_push (.int (-6)) 2)) :: (72, .inl (bz_ic_eq 87)) :: (75, .inl (bz_iload 3 1)) :: (76, .inl (bz_if_ne 84)) :: (79, .inl (bz_iload 6 2)) ::
  (81, .inl (bz_goto 86)) :: (84, .inl (bz_iload 7 2)) :: (86, .inr (.inr 1)) :: (87, .inl (bz_lload 4 2)) :: (89, .inr (.inl (mX10_withAllThatReach, 1, 0))) :: (92, .inl (bz_lstore 4 2)) ::
  (94, .inl (bz_iinc 6 1)) :: (97, .inl (bz_goto 53)) :: (100, .inl (bz_push (.int (-6)) 2)) :: (102, .inr (.inr 1)) :: []
def bm_X10_strokes : bz_M := (RX10, yX10_strokes, cX10_strokes, 8, (some .int), 4, 97, bt_X10_strokes)
def bt_X10_seen : List bz_E := (0, .inl (bz_iload 2 1)) :: (1, .inr (.inl (mX10_isCell, 1, 0))) :: (4, .inl (bz_if_ne 9)) :: (7, .inl (bz_push (.int (-1)) 1)) :: (8, .inr (.inr 1)) :: (9, .inl (bz_iload 1 1)) ::
  (10, .inl (bz_push (.int 0) 1)) :: (11, .inl (bz_push (.int 60) 2)) :: (13, .inr (.inl (mX10_isWithin, 3, 0))) :: (16, .inl (bz_if_ne 22)) :: (19, .inl (bz_push (.int (-2)) 2)) :: (21, .inr (.inr 1)) ::
  (22, .inl (bz_aload 0 1)) :: (23, .inl (bz_getR 9 1)) :: (26, .inl (bz_iload 1 1)) :: (27, .inl (bz_iload 2 1)) :: (28, .inr (.inl (mX4_add, 3, 4))) :: (31, .inl (bz_if_eq 44)) ::
  (34, .inl (bz_aload 0 1)) :: (35, .inl (bz_getR 9 1)) :: (38, .inl (bz_getI 3 2)) :: (41, .inl (bz_goto 46)) :: (44, .inl (bz_push (.int (-4)) 2)) :: (46, .inr (.inr 1)) :: []
def bm_X10_seen : bz_M := (RX10, yX10_seen, cX10_seen, 3, (some .int), 2, 42, bt_X10_seen)
def bt_X10_forget : List bz_E := (0, .inl (bz_aload 0 1)) :: (1, .inl (bz_getR 9 1)) :: (4, .inl (bz_getI 3 2)) :: (7, .inl (bz_istore 1 1)) :: (8, .inl (bz_aload 0 1)) :: (9, .inl (bz_getR 9 1)) ::
  (12, .inl (bz_push (.int 0) 1)) :: (13, .inl (bz_putI 3 2)) :: (16, .inl (bz_iload 1 1)) :: (17, .inr (.inr 1)) :: []
def bm_X10_forget : bz_M := (RX10, yX10_forget, cX10_forget, 2, (some .int), 0, 0, bt_X10_forget)
def bt_X10_sent : List bz_E := (0, .inl (bz_aload 0 1)) :: (1, .inl (bz_getR 9 5)) :: (4, .inl (bz_aload 0 1)) :: (5, .inl (bz_getR 9 1)) :: (8, .inl (bz_aload 0 1)) :: (9, .inl (bz_getR 9 4)) ::
  (12, .inr (.inl (mX9_gather, 3, 9))) :: (15, .inl (bz_iload 1 1)) :: (16, .inl (bz_push (.int (-1)) 1)) :: (17, .inl (bz_ic_ne 28)) :: (20, .inl (bz_aload 0 1)) :: (21, .inl (bz_getR 9 5)) ::
  (24, .inl (bz_getI 8 1)) :: (27, .inr (.inr 1)) :: (28, .inl (bz_iload 1 1)) :: (29, .inl (bz_push (.int 0) 1)) :: (30, .inl (bz_aload 0 1)) :: (31, .inl (bz_getR 9 5)) ::
  (34, .inl (bz_getI 8 1)) :: (37, .inl (bz_push (.int 1) 1)) :: (38, .inl (bz_isub)) :: (39, .inr (.inl (mX10_isWithin, 3, 0))) :: (42, .inl (bz_if_eq 57)) :: (45, .inl (bz_aload 0 1)) ::
  (46, .inl (bz_getR 9 5)) :: (49, .inl (bz_getR 8 0)) :: (52, .inl (bz_iload 1 1)) :: (53, .inl (bz_iald)) :: (54, .inl (bz_goto 59)) :: (57, .inl (bz_push (.int (-6)) 2)) ::
  (59, .inr (.inr 1)) :: []
def bm_X10_sent : bz_M := (RX10, yX10_sent, cX10_sent, 2, (some .int), 4, 89, bt_X10_sent)
def bt_X10_ask : List bz_E := (0, .inl (bz_iload 1 1)) :: (1, .inl (bz_push (.int 0) 1)) :: (2, .inl (bz_push (.int 1) 1)) :: (3, .inr (.inl (mX10_isWithin, 3, 0))) :: (6, .inl (bz_if_ne 12)) :: (9, .inl (bz_push (.int (-2)) 2)) ::
  (11, .inr (.inr 1)) :: (12, .inl (bz_aload 0 1)) :: (13, .inl (bz_getR 9 5)) :: (16, .inl (bz_aload 0 1)) :: (17, .inl (bz_getR 9 1)) :: (20, .inl (bz_aload 0 1)) ::
  (21, .inl (bz_getR 9 4)) :: (24, .inr (.inl (mX9_gather, 3, 9))) :: (27, .inl (bz_aload 0 1)) :: (28, .inl (bz_getR 9 5)) :: (31, .inl (bz_getI 8 1)) :: (34, .inl (bz_if_ne 40)) ::
  (37, .inl (bz_push (.int (-6)) 2)) :: (39, .inr (.inr 1)) :: (40, .inl (bz_aload 0 1)) :: (41, .inl (bz_getR 9 5)) :: (44, .inl (bz_aload 0 1)) :: (45, .inl (bz_getR 9 4)) ::
  (48, .inr (.inl (mX9_chooseStep, 2, 9))) :: (51, .inl (bz_iload 1 1)) :: (52, .inl (bz_if_ne 65)) :: (55, .inl (bz_aload 0 1)) :: (56, .inl (bz_getR 9 5)) :: (59, .inl (bz_getI 8 2)) ::
  (62, .inl (bz_goto 72)) :: (65, .inl (bz_aload 0 1)) :: (66, .inl (bz_getR 9 5)) :: (69, .inl (bz_getI 8 3)) :: (72, .inr (.inr 1)) :: []
def bm_X10_ask : bz_M := (RX10, yX10_ask, cX10_ask, 2, (some .int), 4, 95, bt_X10_ask)
def bt_X10_chalk : List bz_E := (0, .inl (bz_iload 1 1)) :: (1, .inl (bz_push (.int 0) 1)) :: (2, .inl (bz_push (.int 999) 3)) :: (5, .inr (.inl (mX10_isWithin, 3, 0))) :: (8, .inl (bz_if_eq 29)) :: (11, .inl (bz_iload 2 1)) ::
  (12, .inl (bz_push (.int 0) 1)) :: (13, .inl (bz_push (.int 1) 1)) :: (14, .inr (.inl (mX10_isWithin, 3, 0))) :: (17, .inl (bz_if_eq 29)) :: (20, .inl (bz_iload 3 1)) :: (21, .inl (bz_push (.int 0) 1)) ::
  (22, .inl (bz_push (.int 1) 1)) :: (23, .inr (.inl (mX10_isWithin, 3, 0))) :: (26, .inl (bz_if_ne 32)) :: (29, .inl (bz_push (.int (-2)) 2)) :: (31, .inr (.inr 1)) :: (32, .inl (bz_aload 0 1)) ::
  (33, .inl (bz_getR 9 6)) :: (36, .inl (bz_iload 1 1)) :: (37, .inl (bz_iload 2 1)) :: (38, .inl (bz_push (.int 1) 1)) :: (39, .inl (bz_ic_ne 46)) :: (42, .inl (bz_push (.int 1) 1)) ::
  (43, .inl (bz_goto 47)) :: (46, .inl (bz_push (.int 0) 1)) :: (47, .inr (.inl (mX0_winningMove, 3, 1))) :: (50, .inl (bz_istore 4 2)) :: (52, .inl (bz_iload 3 1)) :: (53, .inl (bz_if_ne 69)) ::
  (56, .inl (bz_iload 4 2)) :: (58, .inl (bz_push (.int (-6)) 2)) :: (60, .inl (bz_ic_ne 67)) :: (63, .inl (bz_push (.int 0) 1)) :: (64, .inl (bz_goto 68)) :: (67, .inl (bz_push (.int 1) 1)) ::
  (68, .inr (.inr 1)) :: (69, .inl (bz_iload 4 2)) :: (71, .inr (.inr 1)) :: []
def bm_X10_chalk : bz_M := (RX10, yX10_chalk, cX10_chalk, 5, (some .int), 4, 98, bt_X10_chalk)
def bt_J9_max_f86c9 : List bz_E := (0, .inl (bz_lload 0 1)) :: (1, .inl (bz_lload 2 1)) :: (2, .inl (bz_lcmp)) :: (3, .inl (bz_if_lt 10)) :: (6, .inl (bz_lload 0 1)) :: (7, .inl (bz_goto 11)) ::
  (10, .inl (bz_lload 2 1)) :: (11, .inr (.inr 2)) :: []
def bm_J9_max_f86c9 : bz_M := (RJ9, yJ9_max_f86c9, cJ9_max_f86c9, 4, (some .long), 0, 0, bt_J9_max_f86c9)
def bt_X10_match : List bz_E := (0, .inl (bz_iload 1 1)) :: (1, .inl (bz_push (.int 1) 1)) :: (2, .inl (bz_push (.int 8) 2)) :: (4, .inr (.inl (mX10_isWithin, 3, 0))) :: (7, .inl (bz_if_eq 67)) :: (10, .inl (bz_iload 2 1)) ::
  (11, .inl (bz_push (.int 0) 1)) :: (12, .inl (bz_push (.int 10) 2)) :: (14, .inr (.inl (mX10_isWithin, 3, 0))) :: (17, .inl (bz_if_eq 67)) :: (20, .inl (bz_iload 3 1)) :: (21, .inl (bz_push (.int 0) 1)) ::
  (22, .inl (bz_iload 1 1)) :: (23, .inl (bz_push (.int 1) 1)) :: (24, .inl (bz_isub)) :: (25, .inr (.inl (mX10_isWithin, 3, 0))) :: (28, .inl (bz_if_eq 67)) :: (31, .inl (bz_iload 4 2)) ::
  (33, .inl (bz_push (.int 0) 1)) :: (34, .inl (bz_iload 1 1)) :: (35, .inl (bz_push (.int 1) 1)) :: (36, .inl (bz_isub)) :: (37, .inr (.inl (mX10_isWithin, 3, 0))) :: (40, .inl (bz_if_eq 67)) ::
  (43, .inl (bz_iload 5 2)) :: (45, .inl (bz_push (.int 0) 1)) :: (46, .inl (bz_push (.int 1) 1)) :: (47, .inr (.inl (mX10_isWithin, 3, 0))) :: (50, .inl (bz_if_eq 67)) :: (53, .inl (bz_iload 6 2)) ::
  (55, .inl (bz_push (.int 0) 1)) :: (56, .inl (bz_push (.int 1) 1)) :: (57, .inr (.inl (mX10_isWithin, 3, 0))) :: (60, .inl (bz_if_eq 67)) :: (63, .inl (bz_push (.int 1) 1)) :: (64, .inl (bz_goto 68)) ::
  (67, .inl (bz_push (.int 0) 1)) :: (68, .inl (bz_istore 7 2)) :: (70, .inl (bz_iload 7 2)) :: (72, .inl (bz_if_ne 79)) :: (75, .inl (bz_push (.long (-1000000000000000002)) 3)) :: (78, .inr (.inr 2)) ::
  (79, .inl (bz_iload 1 1)) :: (80, .inl (bz_iload 3 1)) :: (81, .inl (bz_isub)) :: (82, .inl (bz_istore 8 2)) :: (84, .inl (bz_iload 1 1)) :: (85, .inl (bz_iload 4 2)) ::
  (87, .inl (bz_isub)) :: (88, .inl (bz_istore 9 2)) :: (90, .inl (bz_push (.int 10) 2)) :: (92, .inl (bz_iload 8 2)) :: (94, .inl (bz_iload 9 2)) :: (96, .inl (bz_iadd)) ::
  (97, .inl (bz_push (.int 1) 1)) :: (98, .inl (bz_isub)) :: (99, .inr (.inl (mX2_power, 2, 0))) :: (102, .inl (bz_lstore 10 2)) :: (104, .inl (bz_iload 5 2)) :: (106, .inl (bz_if_ne 120)) ::
  (109, .inl (bz_iload 8 2)) :: (111, .inl (bz_iload 9 2)) :: (113, .inl (bz_iload 2 1)) :: (114, .inr (.inl (mX2_winning, 3, 0))) :: (117, .inl (bz_goto 128)) :: (120, .inl (bz_iload 8 2)) ::
  (122, .inl (bz_iload 9 2)) :: (124, .inl (bz_iload 2 1)) :: (125, .inr (.inl (mX2_games, 3, 0))) :: (128, .inl (bz_lstore 12 2)) :: (130, .inl (bz_push (.long 1) 1)) :: (131, .inl (bz_lload 12 2)) ::
  (133, .inl (bz_lload 10 2)) :: (135, .inr (.inl (mX2_commonDivisor, 2, 0))) :: (138, .inr (.inl (mJ9_max_f86c9, 2, 0))) :: (141, .inl (bz_lstore 14 2)) :: (143, .inl (bz_iload 6 2)) :: (145, .inl (bz_if_ne 156)) ::
  (148, .inl (bz_lload 12 2)) :: (150, .inl (bz_lload 14 2)) :: (152, .inl (bz_ldiv)) :: (153, .inl (bz_goto 161)) :: (156, .inl (bz_lload 10 2)) :: (158, .inl (bz_lload 14 2)) ::
  (160, .inl (bz_ldiv)) :: (161, .inr (.inr 2)) :: []
def bm_X10_match : bz_M := (RX10, yX10_match, cX10_match, 16, (some .long), 2, 50, bt_X10_match)
def bt_X10_season : List bz_E := (0, .inl (bz_iload 1 1)) :: (1, .inl (bz_push (.int 0) 1)) :: (2, .inl (bz_push (.int 9999) 3)) :: (5, .inr (.inl (mX10_isWithin, 3, 0))) :: (8, .inl (bz_if_eq 30)) :: (11, .inl (bz_iload 2 1)) ::
  (12, .inl (bz_push (.int 1) 1)) :: (13, .inl (bz_push (.int 99) 2)) :: (15, .inr (.inl (mX10_isWithin, 3, 0))) :: (18, .inl (bz_if_eq 30)) :: (21, .inl (bz_iload 3 1)) :: (22, .inl (bz_push (.int 0) 1)) ::
  (23, .inl (bz_push (.int 2) 1)) :: (24, .inr (.inl (mX10_isWithin, 3, 0))) :: (27, .inl (bz_if_ne 33)) :: (30, .inl (bz_push (.int (-2)) 2)) :: (32, .inr (.inr 1)) :: (33, .inl (bz_aload 0 1)) ::
  (34, .inl (bz_getR 9 3)) :: (37, .inl (bz_iload 1 1)) :: (38, .inl (bz_iload 2 1)) :: (39, .inl (bz_aload 0 1)) :: (40, .inl (bz_getR 9 0)) :: (43, .inr (.inl (mX8_runSeason, 4, 8))) ::
  (46, .inl (bz_iload 3 1)) :: (47, .inl (bz_switch [(0, 72), (1, 83)] 94)) :: (72, .inl (bz_aload 0 1)) :: (73, .inl (bz_getR 9 3)) :: (76, .inl (bz_getR 7 0)) :: (79, .inl (bz_getI 5 1)) ::
  (82, .inr (.inr 1)) :: (83, .inl (bz_aload 0 1)) :: (84, .inl (bz_getR 9 3)) :: (87, .inl (bz_getR 7 0)) :: (90, .inl (bz_getI 5 2)) :: (93, .inr (.inr 1)) ::
  (94, .inl (bz_aload 0 1)) :: (95, .inl (bz_getR 9 3)) :: (98, .inl (bz_getR 7 0)) :: (101, .inr (.inl (mX6_howManyDown, 1, 6))) :: (104, .inr (.inr 1)) :: []
def bm_X10_season : bz_M := (RX10, yX10_season, cX10_season, 4, (some .int), 5, 130, bt_X10_season)
def bt_X10_image : List bz_E := (0, .inl (bz_iload 1 1)) :: (1, .inl (bz_push (.int 0) 1)) :: (2, .inl (bz_push (.int 1) 1)) :: (3, .inr (.inl (mX10_isWithin, 3, 0))) :: (6, .inl (bz_if_ne 12)) :: (9, .inl (bz_push (.int (-2)) 2)) ::
  (11, .inr (.inr 1)) :: (12, .inl (bz_aload 0 1)) :: (13, .inl (bz_getR 9 7)) :: (16, .inl (bz_iload 1 1)) :: (17, .inl (bz_aald)) :: (18, .inl (bz_aload 0 1)) ::
  (19, .inl (bz_getR 9 0)) :: (22, .inl (bz_aload 0 1)) :: (23, .inl (bz_getR 9 1)) :: (26, .inr (.inl (mX1_keep, 3, 2))) :: (29, .inl (bz_push (.int 1) 1)) :: (30, .inr (.inr 1)) :: []
def bm_X10_image : bz_M := (RX10, yX10_image, cX10_image, 2, (some .int), 2, 44, bt_X10_image)
def bt_X10_restore : List bz_E := (0, .inl (bz_iload 1 1)) :: (1, .inl (bz_push (.int 0) 1)) :: (2, .inl (bz_push (.int 1) 1)) :: (3, .inr (.inl (mX10_isWithin, 3, 0))) :: (6, .inl (bz_if_ne 12)) :: (9, .inl (bz_push (.int (-2)) 2)) ::
  (11, .inr (.inr 1)) :: (12, .inl (bz_aload 0 1)) :: (13, .inl (bz_getR 9 7)) :: (16, .inl (bz_iload 1 1)) :: (17, .inl (bz_aald)) :: (18, .inl (bz_getI 1 2)) ::
  (21, .inl (bz_if_ne 27)) :: (24, .inl (bz_push (.int (-3)) 2)) :: (26, .inr (.inr 1)) :: (27, .inl (bz_aload 0 1)) :: (28, .inl (bz_getR 9 0)) :: (31, .inl (bz_aload 0 1)) ::
  (32, .inl (bz_getR 9 7)) :: (35, .inl (bz_iload 1 1)) :: (36, .inl (bz_aald)) :: (37, .inl (bz_getR 1 0)) :: (40, .inr (.inl (mX6_copy, 2, 6))) :: (43, .inl (bz_aload 0 1)) ::
  (44, .inl (bz_getR 9 1)) :: (47, .inl (bz_aload 0 1)) :: (48, .inl (bz_getR 9 7)) :: (51, .inl (bz_iload 1 1)) :: (52, .inl (bz_aald)) :: (53, .inl (bz_getR 1 1)) ::
  (56, .inr (.inl (mX4_copy, 2, 4))) :: (59, .inl (bz_push (.int 1) 1)) :: (60, .inr (.inr 1)) :: []
def bm_X10_restore : bz_M := (RX10, yX10_restore, cX10_restore, 2, (some .int), 1, 22, bt_X10_restore)
def bt_X10_told : List bz_E := (0, .inl (bz_iload 1 1)) :: (1, .inl (bz_switch (bz_mk 0 [36, 44, 52, 60, 68]) 76)) :: (36, .inl (bz_aload 0 1)) :: (37, .inl (bz_getR 9 2)) :: (40, .inl (bz_getI 2 1)) :: (43, .inr (.inr 1)) ::
  (44, .inl (bz_aload 0 1)) :: (45, .inl (bz_getR 9 0)) :: (48, .inl (bz_getI 5 1)) :: (51, .inr (.inr 1)) :: (52, .inl (bz_aload 0 1)) :: (53, .inl (bz_getR 9 0)) ::
  (56, .inl (bz_getI 5 2)) :: (59, .inr (.inr 1)) :: (60, .inl (bz_aload 0 1)) :: (61, .inl (bz_getR 9 0)) :: (64, .inl (bz_getI 5 3)) :: (67, .inr (.inr 1)) ::
  (68, .inl (bz_aload 0 1)) :: (69, .inl (bz_getR 9 1)) :: (72, .inl (bz_getI 3 2)) :: (75, .inr (.inr 1)) :: (76, .inl (bz_iload 1 1)) :: (77, .inl (bz_push (.int 10) 2)) ::
  (79, .inl (bz_push (.int 12) 2)) :: (81, .inr (.inl (mX10_isWithin, 3, 0))) :: (84, .inl (bz_if_eq 101)) :: (87, .inl (bz_aload 0 1)) :: (88, .inl (bz_getR 9 0)) :: (91, .inl (bz_iload 1 1)) ::
  (92, .inl (bz_push (.int 10) 2)) :: (94, .inl (bz_isub)) :: (95, .inr (.inl (mX6_cellOrNone, 2, 6))) :: (98, .inl (bz_goto 103)) :: (101, .inl (bz_push (.int (-2)) 2)) :: (103, .inr (.inr 1)) :: []
def bm_X10_told : bz_M := (RX10, yX10_told, cX10_told, 2, (some .int), 3, 62, bt_X10_told)
def bt_X11_in : List bz_E := (0, .inl (bz_lload 0 1)) :: (1, .inl (bz_lload 2 1)) :: (2, .inl (bz_lcmp)) :: (3, .inl (bz_if_lt 17)) :: (6, .inl (bz_lload 0 1)) :: (7, .inl (bz_lload 4 2)) ::
  (9, .inl (bz_lcmp)) :: (10, .inl (bz_if_gt 17)) :: (13, .inl (bz_push (.int 1) 1)) :: (14, .inl (bz_goto 18)) :: (17, .inl (bz_push (.int 0) 1)) :: (18, .inr (.inr 3)) :: []
def bm_X11_in : bz_M := (RX11, yX11_in, cX11_in, 6, (some .boolean), 0, 0, bt_X11_in)
def bt_X11_isBall : List bz_E := (0, .inl (bz_iload 0 1)) :: (1, .inl (bz_i2l)) :: (2, .inl (bz_push (.long 0) 1)) :: (3, .inl (bz_push (.long 2) 3)) :: (6, .inr (.inl (mX11_in, 3, 0))) :: (9, .inr (.inr 3)) :: []
def bm_X11_isBall : bz_M := (RX11, yX11_isBall, cX11_isBall, 1, (some .boolean), 1, 25, bt_X11_isBall)
def bt_X11_isCell : List bz_E := (0, .inl (bz_iload 0 1)) :: (1, .inl (bz_i2l)) :: (2, .inl (bz_push (.long 0) 1)) :: (3, .inl (bz_push (.long 44) 3)) :: (6, .inr (.inl (mX11_in, 3, 0))) :: (9, .inr (.inr 3)) :: []
def bm_X11_isCell : bz_M := (RX11, yX11_isCell, cX11_isCell, 1, (some .boolean), 1, 25, bt_X11_isCell)
def bt_X11_isPocket : List bz_E := (0, .inl (bz_iload 0 1)) :: (1, .inl (bz_push (.int 9) 2)) :: (3, .inl (bz_idiv)) :: (4, .inl (bz_if_eq 15)) :: (7, .inl (bz_iload 0 1)) :: (8, .inl (bz_push (.int 9) 2)) ::
  (10, .inl (bz_idiv)) :: (11, .inl (bz_push (.int 4) 1)) :: (12, .inl (bz_ic_ne 28)) :: (15, .inl (bz_iload 0 1)) :: (16, .inl (bz_push (.int 9) 2)) :: (18, .inl (bz_irem)) ::
  (19, .inl (bz_push (.int 4) 1)) :: (20, .inl (bz_irem)) :: (21, .inl (bz_if_ne 28)) :: (24, .inl (bz_push (.int 1) 1)) :: (25, .inl (bz_goto 29)) :: (28, .inl (bz_push (.int 0) 1)) ::
  (29, .inr (.inr 3)) :: []
def bm_X11_isPocket : bz_M := (RX11, yX11_isPocket, cX11_isPocket, 1, (some .boolean), 0, 0, bt_X11_isPocket)
def bt_X11_isPlace : List bz_E := (0, .inl (bz_iload 0 1)) :: (1, .inr (.inl (mX11_isCell, 1, 0))) :: (4, .inl (bz_if_eq 18)) :: (7, .inl (bz_iload 0 1)) :: (8, .inr (.inl (mX11_isPocket, 1, 0))) :: (11, .inl (bz_if_ne 18)) ::
  (14, .inl (bz_push (.int 1) 1)) :: (15, .inl (bz_goto 19)) :: (18, .inl (bz_push (.int 0) 1)) :: (19, .inr (.inr 3)) :: []
def bm_X11_isPlace : bz_M := (RX11, yX11_isPlace, cX11_isPlace, 1, (some .boolean), 2, 45, bt_X11_isPlace)
def bt_X11_home : List bz_E := (0, .inl (bz_iload 0 1)) :: (1, .inl (bz_if_ne 9)) :: (4, .inl (bz_push (.int 10) 2)) :: (6, .inl (bz_goto 21)) :: (9, .inl (bz_iload 0 1)) :: (10, .inl (bz_push (.int 1) 1)) ::
  (11, .inl (bz_ic_ne 19)) :: (14, .inl (bz_push (.int 16) 2)) :: (16, .inl (bz_goto 21)) :: (19, .inl (bz_push (.int 24) 2)) :: (21, .inr (.inr 1)) :: []
def bm_X11_home : bz_M := (RX11, yX11_home, cX11_home, 1, (some .int), 0, 0, bt_X11_home)
def bt_X11_downwards : List bz_E := (0, .inl (bz_iload 0 1)) :: (1, .inl (bz_if_eq 15)) :: (4, .inl (bz_iload 0 1)) :: (5, .inl (bz_push (.int 1) 1)) :: (6, .inl (bz_ic_eq 15)) :: (9, .inl (bz_iload 0 1)) ::
  (10, .inl (bz_push (.int 7) 2)) :: (12, .inl (bz_ic_ne 19)) :: (15, .inl (bz_push (.int (-1)) 1)) :: (16, .inl (bz_goto 35)) :: (19, .inl (bz_iload 0 1)) :: (20, .inl (bz_push (.int 2) 1)) ::
  (21, .inl (bz_ic_eq 30)) :: (24, .inl (bz_iload 0 1)) :: (25, .inl (bz_push (.int 6) 2)) :: (27, .inl (bz_ic_ne 34)) :: (30, .inl (bz_push (.int 0) 1)) :: (31, .inl (bz_goto 35)) ::
  (34, .inl (bz_push (.int 1) 1)) :: (35, .inr (.inr 1)) :: []
def bm_X11_downwards : bz_M := (RX11, yX11_downwards, cX11_downwards, 1, (some .int), 0, 0, bt_X11_downwards)
def bt_X11_across : List bz_E := (0, .inl (bz_iload 0 1)) :: (1, .inl (bz_if_eq 9)) :: (4, .inl (bz_iload 0 1)) :: (5, .inl (bz_push (.int 4) 1)) :: (6, .inl (bz_ic_ne 13)) :: (9, .inl (bz_push (.int 0) 1)) ::
  (10, .inl (bz_goto 23)) :: (13, .inl (bz_iload 0 1)) :: (14, .inl (bz_push (.int 4) 1)) :: (15, .inl (bz_ic_ge 22)) :: (18, .inl (bz_push (.int 1) 1)) :: (19, .inl (bz_goto 23)) ::
  (22, .inl (bz_push (.int (-1)) 1)) :: (23, .inr (.inr 1)) :: []
def bm_X11_across : bz_M := (RX11, yX11_across, cX11_across, 1, (some .int), 0, 0, bt_X11_across)
def bt_X11_turned : List bz_E := (0, .inl (bz_iload 0 1)) :: (1, .inl (bz_push (.int 9) 2)) :: (3, .inl (bz_idiv)) :: (4, .inl (bz_iload 1 1)) :: (5, .inr (.inl (mX11_downwards, 1, 0))) :: (8, .inl (bz_iadd)) ::
  (9, .inl (bz_i2l)) :: (10, .inl (bz_push (.long 0) 1)) :: (11, .inl (bz_push (.long 4) 3)) :: (14, .inr (.inl (mX11_in, 3, 0))) :: (17, .inl (bz_if_ne 24)) :: (20, .inl (bz_push (.int 1) 1)) ::
  (21, .inl (bz_goto 25)) :: (24, .inl (bz_push (.int 0) 1)) :: (25, .inl (bz_istore 2 1)) :: (26, .inl (bz_iload 0 1)) :: (27, .inl (bz_push (.int 9) 2)) :: (29, .inl (bz_irem)) ::
  (30, .inl (bz_iload 1 1)) :: (31, .inr (.inl (mX11_across, 1, 0))) :: (34, .inl (bz_iadd)) :: (35, .inl (bz_i2l)) :: (36, .inl (bz_push (.long 0) 1)) :: (37, .inl (bz_push (.long 8) 3)) ::
  (40, .inr (.inl (mX11_in, 3, 0))) :: (43, .inl (bz_if_ne 50)) :: (46, .inl (bz_push (.int 1) 1)) :: (47, .inl (bz_goto 51)) :: (50, .inl (bz_push (.int 0) 1)) :: (51, .inl (bz_istore 3 1)) ::
  (52, .inl (bz_iload 2 1)) :: (53, .inl (bz_if_eq 66)) :: (56, .inl (bz_push (.int 12) 2)) :: (58, .inl (bz_iload 1 1)) :: (59, .inl (bz_isub)) :: (60, .inl (bz_push (.int 8) 2)) ::
  (62, .inl (bz_irem)) :: (63, .inl (bz_goto 67)) :: (66, .inl (bz_iload 1 1)) :: (67, .inl (bz_istore 4 2)) :: (69, .inl (bz_iload 3 1)) :: (70, .inl (bz_if_eq 84)) ::
  (73, .inl (bz_push (.int 8) 2)) :: (75, .inl (bz_iload 4 2)) :: (77, .inl (bz_isub)) :: (78, .inl (bz_push (.int 8) 2)) :: (80, .inl (bz_irem)) :: (81, .inl (bz_goto 86)) ::
  (84, .inl (bz_iload 4 2)) :: (86, .inr (.inr 1)) :: []
def bm_X11_turned : bz_M := (RX11, yX11_turned, cX11_turned, 5, (some .int), 1, 25, bt_X11_turned)
def bt_X11_ahead : List bz_E := (0, .inl (bz_iload 0 1)) :: (1, .inl (bz_push (.int 9) 2)) :: (3, .inl (bz_iload 1 1)) :: (4, .inr (.inl (mX11_downwards, 1, 0))) :: (7, .inl (bz_imul)) :: (8, .inl (bz_iadd)) ::
  (9, .inl (bz_iload 1 1)) :: (10, .inr (.inl (mX11_across, 1, 0))) :: (13, .inl (bz_iadd)) :: (14, .inr (.inr 1)) :: []
def bm_X11_ahead : bz_M := (RX11, yX11_ahead, cX11_ahead, 2, (some .int), 1, 20, bt_X11_ahead)
def bt_X11_ballOn : List bz_E := (0, .inl (bz_push (.int (-6)) 2)) :: (2, .inl (bz_istore 2 1)) :: (3, .inl (bz_push (.int 0) 1)) :: (4, .inl (bz_istore 3 1)) :: (5, .inl (bz_iload 3 1)) :: (6, .inl (bz_push (.int 3) 1)) ::
  (7, .inl (bz_ic_ge 32)) :: (10, .inl (bz_aload 0 1)) :: (11, .inl (bz_getR 10 0)) :: (14, .inl (bz_iload 3 1)) :: (15, .inl (bz_iald)) :: (16, .inl (bz_iload 1 1)) ::
  (17, .inl (bz_ic_ne 24)) :: (20, .inl (bz_iload 3 1)) :: (21, .inl (bz_goto 25)) :: (24, .inl (bz_iload 2 1)) :: (25, .inl (bz_istore 2 1)) :: (26, .inl (bz_iinc 3 1)) ::
  (29, .inl (bz_goto 5)) :: (32, .inl (bz_iload 2 1)) :: (33, .inr (.inr 1)) :: []
def bm_X11_ballOn : bz_M := (RX11, yX11_ballOn, cX11_ballOn, 4, (some .int), 0, 0, bt_X11_ballOn)
def bt_X11_ball : List bz_E := (0, .inl (bz_iload 1 1)) :: (1, .inr (.inl (mX11_isBall, 1, 0))) :: (4, .inl (bz_if_eq 19)) :: (7, .inl (bz_iload 2 1)) :: (8, .inl (bz_push (.int (-1)) 1)) :: (9, .inl (bz_ic_eq 21)) ::
  (12, .inl (bz_iload 2 1)) :: (13, .inr (.inl (mX11_isPlace, 1, 0))) :: (16, .inl (bz_if_ne 21)) :: (19, .inl (bz_push (.int (-1)) 1)) :: (20, .inr (.inr 1)) :: (21, .inl (bz_iload 2 1)) ::
  (22, .inl (bz_if_ge 30)) :: (25, .inl (bz_push (.int (-6)) 2)) :: (27, .inl (bz_goto 35)) :: (30, .inl (bz_aload 0 1)) :: (31, .inl (bz_iload 2 1)) :: (32, .inr (.inl (mX11_ballOn, 2, 11))) ::
  (35, .inl (bz_istore 3 1)) :: (36, .inl (bz_iload 3 1)) :: (37, .inl (bz_if_lt 48)) :: (40, .inl (bz_iload 3 1)) :: (41, .inl (bz_iload 1 1)) :: (42, .inl (bz_ic_eq 48)) ::
  (45, .inl (bz_push (.int (-3)) 2)) :: (47, .inr (.inr 1)) :: (48, .inl (bz_aload 0 1)) :: (49, .inl (bz_getR 10 0)) :: (52, .inl (bz_iload 1 1)) :: (53, .inl (bz_iald)) ::
  (54, .inl (bz_istore 4 2)) :: (56, .inl (bz_aload 0 1)) :: (57, .inl (bz_getR 10 0)) :: (60, .inl (bz_iload 1 1)) :: (61, .inl (bz_iload 2 1)) :: (62, .inl (bz_if_ge 70)) ::
  (65, .inl (bz_push (.int (-6)) 2)) :: (67, .inl (bz_goto 71)) :: (70, .inl (bz_iload 2 1)) :: (71, .inl (bz_iast)) :: (72, .inl (bz_iload 4 2)) :: (74, .inr (.inr 1)) :: []
def bm_X11_ball : bz_M := (RX11, yX11_ball, cX11_ball, 5, (some .int), 3, 65, bt_X11_ball)
def bt_X11_score : List bz_E := (0, .inl (bz_iload 1 1)) :: (1, .inl (bz_i2l)) :: (2, .inl (bz_push (.long 0) 1)) :: (3, .inl (bz_push (.long 99) 3)) :: (6, .inr (.inl (mX11_in, 3, 0))) :: (9, .inl (bz_if_eq 24)) ::
  (12, .inl (bz_iload 2 1)) :: (13, .inl (bz_i2l)) :: (14, .inl (bz_push (.long 0) 1)) :: (15, .inl (bz_push (.long 99) 3)) :: (18, .inr (.inl (mX11_in, 3, 0))) :: (21, .inl (bz_if_ne 27)) ::
  (24, .inl (bz_push (.int (-2)) 2)) :: (26, .inr (.inr 1)) :: (27, .inl (bz_push (.int 100) 2)) :: (29, .inl (bz_aload 0 1)) :: (30, .inl (bz_getI 10 1)) :: (33, .inl (bz_imul)) ::
  (34, .inl (bz_aload 0 1)) :: (35, .inl (bz_getI 10 2)) :: (38, .inl (bz_iadd)) :: (39, .inl (bz_istore 3 1)) :: (40, .inl (bz_aload 0 1)) :: (41, .inl (bz_iload 1 1)) ::
  (42, .inl (bz_putI 10 1)) :: (45, .inl (bz_aload 0 1)) :: (46, .inl (bz_iload 2 1)) :: (47, .inl (bz_putI 10 2)) :: (50, .inl (bz_iload 3 1)) :: (51, .inr (.inr 1)) :: []
def bm_X11_score : bz_M := (RX11, yX11_score, cX11_score, 4, (some .int), 1, 25, bt_X11_score)
def bt_X11_say : List bz_E := (0, .inl (bz_iload 1 1)) :: (1, .inl (bz_i2l)) :: (2, .inl (bz_push (.long 33) 3)) :: (5, .inl (bz_push (.long 126) 3)) :: (8, .inr (.inl (mX11_in, 3, 0))) :: (11, .inl (bz_if_ne 17)) ::
  (14, .inl (bz_push (.int (-2)) 2)) :: (16, .inr (.inr 1)) :: (17, .inl (bz_aload 0 1)) :: (18, .inl (bz_getI 10 8)) :: (21, .inl (bz_push (.int 60) 2)) :: (23, .inl (bz_ic_ne 29)) ::
  (26, .inl (bz_push (.int (-4)) 2)) :: (28, .inr (.inr 1)) :: (29, .inl (bz_aload 0 1)) :: (30, .inl (bz_getR 10 7)) :: (33, .inl (bz_aload 0 1)) :: (34, .inl (bz_getI 10 8)) ::
  (37, .inl (bz_iload 1 1)) :: (38, .inl (bz_iast)) :: (39, .inl (bz_aload 0 1)) :: (40, .inl (bz_dup)) :: (41, .inl (bz_getI 10 8)) :: (44, .inl (bz_push (.int 1) 1)) ::
  (45, .inl (bz_iadd)) :: (46, .inl (bz_putI 10 8)) :: (49, .inl (bz_aload 0 1)) :: (50, .inl (bz_getI 10 8)) :: (53, .inr (.inr 1)) :: []
def bm_X11_say : bz_M := (RX11, yX11_say, cX11_say, 2, (some .int), 1, 25, bt_X11_say)
def bt_X11_wipe : List bz_E := (0, .inl (bz_aload 0 1)) :: (1, .inl (bz_getI 10 8)) :: (4, .inl (bz_istore 1 1)) :: (5, .inl (bz_aload 0 1)) :: (6, .inl (bz_push (.int 0) 1)) :: (7, .inl (bz_putI 10 8)) ::
  (10, .inl (bz_iload 1 1)) :: (11, .inr (.inr 1)) :: []
def bm_X11_wipe : bz_M := (RX11, yX11_wipe, cX11_wipe, 2, (some .int), 0, 0, bt_X11_wipe)
def bt_X11_close : List bz_E := (0, .inl (bz_aload 0 1)) :: (1, .inl (bz_getR 10 9)) :: (4, .inl (bz_aload 0 1)) :: (5, .inl (bz_getI 10 13)) :: (8, .inl (bz_iload 1 1)) :: (9, .inl (bz_iast)) ::
  (10, .inl (bz_aload 0 1)) :: (11, .inl (bz_dup)) :: (12, .inl (bz_getI 10 13)) :: (15, .inl (bz_push (.int 1) 1)) :: (16, .inl (bz_iadd)) :: (17, .inl (bz_putI 10 13)) ::
  (20, .inl (bz_push (.int 0) 1)) :: (21, .inr (.inr 1)) :: []
def bm_X11_close : bz_M := (RX11, yX11_close, cX11_close, 2, (some .int), 0, 0, bt_X11_close)
def bt_X11_begin : List bz_E := (0, .inl (bz_iload 1 1)) :: (1, .inl (bz_i2l)) :: (2, .inl (bz_push (.long 65) 3)) :: (5, .inl (bz_push (.long 67) 3)) :: (8, .inr (.inl (mX11_in, 3, 0))) :: (11, .inl (bz_istore 2 1)) ::
  (12, .inl (bz_aload 0 1)) :: (13, .inl (bz_getR 10 10)) :: (16, .inl (bz_aload 0 1)) :: (17, .inl (bz_getI 10 13)) :: (20, .inl (bz_iload 2 1)) :: (21, .inl (bz_if_eq 31)) ::
  (24, .inl (bz_iload 1 1)) :: (25, .inl (bz_push (.int 65) 2)) :: (27, .inl (bz_isub)) :: (28, .inl (bz_goto 32)) :: (31, .inl (bz_push (.int 0) 1)) :: (32, .inl (bz_iast)) ::
  (33, .inl (bz_aload 0 1)) :: (34, .inl (bz_getR 10 11)) :: (37, .inl (bz_aload 0 1)) :: (38, .inl (bz_getI 10 13)) :: (41, .inl (bz_push (.int 0) 1)) :: (42, .inl (bz_iast)) ::
  (43, .inl (bz_aload 0 1)) :: (44, .inl (bz_getR 10 12)) :: (47, .inl (bz_aload 0 1)) :: (48, .inl (bz_getI 10 13)) :: (51, .inl (bz_push (.int 0) 1)) :: (52, .inl (bz_iast)) ::
  (53, .inl (bz_iload 2 1)) :: (54, .inl (bz_if_eq 61)) :: (57, .inl (bz_push (.int 1) 1)) :: (58, .inl (bz_goto 91)) :: (61, .inl (bz_iload 1 1)) :: (62, .inl (bz_push (.int 126) 2)) ::
  (64, .inl (bz_ic_ne 75)) :: (67, .inl (bz_aload 0 1)) :: (68, .inl (bz_push (.int 2) 1)) :: (69, .inr (.inl (mX11_close, 2, 11))) :: (72, .inl (bz_goto 91)) :: (75, .inl (bz_iload 1 1)) ::
  (76, .inl (bz_push (.int 46) 2)) :: (78, .inl (bz_ic_ne 89)) :: (81, .inl (bz_aload 0 1)) :: (82, .inl (bz_push (.int 3) 1)) :: (83, .inr (.inl (mX11_close, 2, 11))) :: (86, .inl (bz_goto 91)) ::
  (89, .inl (bz_push (.int (-6)) 2)) :: (91, .inr (.inr 1)) :: []
def bm_X11_begin : bz_M := (RX11, yX11_begin, cX11_begin, 3, (some .int), 1, 25, bt_X11_begin)
def bt_X11_deed : List bz_E := (0, .inl (bz_iload 1 1)) :: (1, .inl (bz_push (.int 94) 2)) :: (3, .inl (bz_ic_ne 12)) :: (6, .inl (bz_aload 0 1)) :: (7, .inl (bz_push (.int 1) 1)) :: (8, .inr (.inl (mX11_close, 2, 11))) ::
  (11, .inr (.inr 1)) :: (12, .inl (bz_aload 0 1)) :: (13, .inl (bz_getR 10 11)) :: (16, .inl (bz_aload 0 1)) :: (17, .inl (bz_getI 10 13)) :: (20, .inl (bz_iload 1 1)) ::
  (21, .inl (bz_push (.int 48) 2)) :: (23, .inl (bz_isub)) :: (24, .inl (bz_iast)) :: (25, .inl (bz_iload 1 1)) :: (26, .inl (bz_i2l)) :: (27, .inl (bz_push (.long 48) 3)) ::
  (30, .inl (bz_push (.long 55) 3)) :: (33, .inr (.inl (mX11_in, 3, 0))) :: (36, .inl (bz_if_eq 43)) :: (39, .inl (bz_push (.int 2) 1)) :: (40, .inl (bz_goto 45)) :: (43, .inl (bz_push (.int (-6)) 2)) ::
  (45, .inr (.inr 1)) :: []
def bm_X11_deed : bz_M := (RX11, yX11_deed, cX11_deed, 2, (some .int), 1, 25, bt_X11_deed)
def bt_X11_force : List bz_E := (0, .inl (bz_aload 0 1)) :: (1, .inl (bz_getR 10 12)) :: (4, .inl (bz_aload 0 1)) :: (5, .inl (bz_getI 10 13)) :: (8, .inl (bz_iload 1 1)) :: (9, .inl (bz_push (.int 48) 2)) ::
  (11, .inl (bz_isub)) :: (12, .inl (bz_iast)) :: (13, .inl (bz_iload 1 1)) :: (14, .inl (bz_i2l)) :: (15, .inl (bz_push (.long 49) 3)) :: (18, .inl (bz_push (.long 57) 3)) ::
  (21, .inr (.inl (mX11_in, 3, 0))) :: (24, .inl (bz_if_eq 35)) :: (27, .inl (bz_aload 0 1)) :: (28, .inl (bz_push (.int 0) 1)) :: (29, .inr (.inl (mX11_close, 2, 11))) :: (32, .inl (bz_goto 37)) ::
  (35, .inl (bz_push (.int (-6)) 2)) :: (37, .inr (.inr 1)) :: []
def bm_X11_force : bz_M := (RX11, yX11_force, cX11_force, 2, (some .int), 1, 25, bt_X11_force)
def bt_X11_readOn : List bz_E := (0, .inl (bz_iload 1 1)) :: (1, .inl (bz_if_ne 12)) :: (4, .inl (bz_aload 0 1)) :: (5, .inl (bz_iload 2 1)) :: (6, .inr (.inl (mX11_begin, 2, 11))) :: (9, .inl (bz_goto 30)) ::
  (12, .inl (bz_iload 1 1)) :: (13, .inl (bz_push (.int 1) 1)) :: (14, .inl (bz_ic_ne 25)) :: (17, .inl (bz_aload 0 1)) :: (18, .inl (bz_iload 2 1)) :: (19, .inr (.inl (mX11_deed, 2, 11))) ::
  (22, .inl (bz_goto 30)) :: (25, .inl (bz_aload 0 1)) :: (26, .inl (bz_iload 2 1)) :: (27, .inr (.inl (mX11_force, 2, 11))) :: (30, .inr (.inr 1)) :: []
def bm_X11_readOn : bz_M := (RX11, yX11_readOn, cX11_readOn, 3, (some .int), 2, 47, bt_X11_readOn)
def bt_X11_fault : List bz_E := (0, .inl (bz_aload 0 1)) :: (1, .inl (bz_push (.int 0) 1)) :: (2, .inl (bz_putI 10 13)) :: (5, .inl (bz_push (.int 0) 1)) :: (6, .inl (bz_istore 1 1)) :: (7, .inl (bz_push (.int 0) 1)) ::
  (8, .inl (bz_istore 2 1)) :: (9, .inl (bz_iload 2 1)) :: (10, .inl (bz_aload 0 1)) :: (11, .inl (bz_getI 10 8)) :: (14, .inl (bz_ic_ge 41)) :: (17, .inl (bz_aload 0 1)) ::
  (18, .inl (bz_iload 1 1)) :: (19, .inl (bz_aload 0 1)) :: (20, .inl (bz_getR 10 7)) :: (23, .inl (bz_iload 2 1)) :: (24, .inl (bz_iald)) :: (25, .inr (.inl (mX11_readOn, 3, 11))) ::
  (28, .inl (bz_istore 1 1)) :: (29, .inl (bz_iload 1 1)) :: (30, .inl (bz_if_ge 35)) :: (33, .inl (bz_iload 2 1)) :: (34, .inr (.inr 1)) :: (35, .inl (bz_iinc 2 1)) ::
  (38, .inl (bz_goto 9)) :: (41, .inl (bz_iload 1 1)) :: (42, .inl (bz_if_ne 50)) :: (45, .inl (bz_push (.int (-6)) 2)) :: (47, .inl (bz_goto 54)) :: (50, .inl (bz_aload 0 1)) ::
  (51, .inl (bz_getI 10 8)) :: (54, .inr (.inr 1)) :: []
def bm_X11_fault : bz_M := (RX11, yX11_fault, cX11_fault, 3, (some .int), 3, 69, bt_X11_fault)
def bt_X11_touch : List bz_E := (0, .inl (bz_aload 0 1)) :: (1, .inl (bz_dup)) :: (2, .inl (bz_getI 10 17)) :: (5, .inl (bz_push (.int 1) 1)) :: (6, .inl (bz_iadd)) :: (7, .inl (bz_putI 10 17)) ::
  (10, .inl (bz_aload 0 1)) :: (11, .inl (bz_getI 10 20)) :: (14, .inl (bz_if_ge 40)) :: (17, .inl (bz_aload 0 1)) :: (18, .inl (bz_iload 1 1)) :: (19, .inl (bz_putI 10 20)) ::
  (22, .inl (bz_aload 0 1)) :: (23, .inl (bz_aload 0 1)) :: (24, .inl (bz_getI 10 18)) :: (27, .inl (bz_putI 10 19)) :: (30, .inl (bz_aload 0 1)) :: (31, .inl (bz_iload 2 1)) ::
  (32, .inl (bz_aload 0 1)) :: (33, .inl (bz_getI 10 16)) :: (36, .inl (bz_isub)) :: (37, .inl (bz_putI 10 21)) :: (40, .inl (bz_aload 0 1)) :: (41, .inl (bz_iload 1 1)) ::
  (42, .inl (bz_putI 10 14)) :: (45, .inr (.inr 0)) :: []
def bm_X11_touch : bz_M := (RX11, yX11_touch, cX11_touch, 3, none, 0, 0, bt_X11_touch)
def bt_X11_step : List bz_E := (0, .inl (bz_aload 0 1)) :: (1, .inl (bz_getR 10 0)) :: (4, .inl (bz_aload 0 1)) :: (5, .inl (bz_getI 10 14)) :: (8, .inl (bz_iald)) :: (9, .inl (bz_aload 0 1)) ::
  (10, .inl (bz_getI 10 15)) :: (13, .inr (.inl (mX11_turned, 2, 0))) :: (16, .inl (bz_istore 2 1)) :: (17, .inl (bz_aload 0 1)) :: (18, .inl (bz_dup)) :: (19, .inl (bz_getI 10 18)) ::
  (22, .inl (bz_iload 2 1)) :: (23, .inl (bz_aload 0 1)) :: (24, .inl (bz_getI 10 15)) :: (27, .inl (bz_ic_ne 34)) :: (30, .inl (bz_push (.int 0) 1)) :: (31, .inl (bz_goto 35)) ::
  (34, .inl (bz_push (.int 1) 1)) :: (35, .inl (bz_iadd)) :: (36, .inl (bz_putI 10 18)) :: (39, .inl (bz_aload 0 1)) :: (40, .inl (bz_iload 2 1)) :: (41, .inl (bz_putI 10 15)) ::
  (44, .inl (bz_aload 0 1)) :: (45, .inl (bz_dup)) :: (46, .inl (bz_getI 10 16)) :: (49, .inl (bz_push (.int 1) 1)) :: (50, .inl (bz_isub)) :: (51, .inl (bz_putI 10 16)) ::
  (54, .inl (bz_aload 0 1)) :: (55, .inl (bz_getR 10 0)) :: (58, .inl (bz_aload 0 1)) :: (59, .inl (bz_getI 10 14)) :: (62, .inl (bz_iald)) :: (63, .inl (bz_aload 0 1)) ::
  (64, .inl (bz_getI 10 15)) :: (67, .inr (.inl (mX11_ahead, 2, 0))) :: (70, .inl (bz_istore 3 1)) :: (71, .inl (bz_aload 0 1)) :: (72, .inl (bz_iload 3 1)) :: (73, .inr (.inl (mX11_ballOn, 2, 11))) ::
  (76, .inl (bz_istore 4 2)) :: (78, .inl (bz_iload 4 2)) :: (80, .inl (bz_if_lt 91)) :: (83, .inl (bz_aload 0 1)) :: (84, .inl (bz_iload 4 2)) :: (86, .inl (bz_iload 1 1)) ::
  (87, .inr (.inl (mX11_touch, 3, 11))) :: (90, .inr (.inr 0)) :: (91, .inl (bz_aload 0 1)) :: (92, .inl (bz_getR 10 0)) :: (95, .inl (bz_aload 0 1)) :: (96, .inl (bz_getI 10 14)) ::
  (99, .inl (bz_iload 3 1)) :: (100, .inl (bz_iast)) :: (101, .inl (bz_iload 3 1)) :: (102, .inr (.inl (mX11_isPocket, 1, 0))) :: (105, .inl (bz_if_eq 127)) :: (108, .inl (bz_aload 0 1)) ::
  (109, .inl (bz_getR 10 0)) :: (112, .inl (bz_aload 0 1)) :: (113, .inl (bz_getI 10 14)) :: (116, .inl (bz_push (.int (-6)) 2)) :: (118, .inl (bz_iast)) :: (119, .inl (bz_aload 0 1)) ::
  (120, .inl (bz_aload 0 1)) :: (121, .inl (bz_getI 10 14)) :: (124, .inl (bz_putI 10 22)) :: (127, .inr (.inr 0)) :: []
def bm_X11_step : bz_M := (RX11, yX11_step, cX11_step, 5, none, 2, 49, bt_X11_step)
def bt_X11_send : List bz_E := (0, .inl (bz_aload 0 1)) :: (1, .inl (bz_iload 1 1)) :: (2, .inl (bz_putI 10 14)) :: (5, .inl (bz_aload 0 1)) :: (6, .inl (bz_iload 2 1)) :: (7, .inl (bz_putI 10 15)) ::
  (10, .inl (bz_aload 0 1)) :: (11, .inl (bz_iload 3 1)) :: (12, .inl (bz_putI 10 16)) :: (15, .inl (bz_aload 0 1)) :: (16, .inl (bz_push (.int 0) 1)) :: (17, .inl (bz_putI 10 17)) ::
  (20, .inl (bz_aload 0 1)) :: (21, .inl (bz_push (.int 0) 1)) :: (22, .inl (bz_putI 10 18)) :: (25, .inl (bz_aload 0 1)) :: (26, .inl (bz_push (.int (-6)) 2)) :: (28, .inl (bz_putI 10 19)) ::
  (31, .inl (bz_aload 0 1)) :: (32, .inl (bz_push (.int (-6)) 2)) :: (34, .inl (bz_putI 10 20)) :: (37, .inl (bz_aload 0 1)) :: (38, .inl (bz_push (.int (-6)) 2)) :: (40, .inl (bz_putI 10 21)) ::
  (43, .inl (bz_aload 0 1)) :: (44, .inl (bz_push (.int (-6)) 2)) :: (46, .inl (bz_putI 10 22)) :: (49, .inl (bz_aload 0 1)) :: (50, .inl (bz_getI 10 16)) :: (53, .inl (bz_if_le 71)) ::
  (56, .inl (bz_aload 0 1)) :: (57, .inl (bz_getI 10 22)) :: (60, .inl (bz_if_ge 71)) :: (63, .inl (bz_aload 0 1)) :: (64, .inl (bz_iload 3 1)) :: (65, .inr (.inl (mX11_step, 2, 11))) ::
  (68, .inl (bz_goto 49)) :: (71, .inr (.inr 0)) :: []
def bm_X11_send : bz_M := (RX11, yX11_send, cX11_send, 4, none, 3, 73, bt_X11_send)
def bt_X11_stroke : List bz_E := (0, .inl (bz_aload 0 1)) :: (1, .inl (bz_iload 1 1)) :: (2, .inl (bz_iload 2 1)) :: (3, .inl (bz_iload 3 1)) :: (4, .inr (.inl (mX11_send, 4, 11))) :: (7, .inl (bz_aload 0 1)) ::
  (8, .inl (bz_dup)) :: (9, .inl (bz_getI 10 1)) :: (12, .inl (bz_aload 0 1)) :: (13, .inl (bz_getI 10 17)) :: (16, .inl (bz_push (.int 1) 1)) :: (17, .inl (bz_ic_le 24)) ::
  (20, .inl (bz_push (.int 2) 1)) :: (21, .inl (bz_goto 25)) :: (24, .inl (bz_push (.int 0) 1)) :: (25, .inl (bz_iadd)) :: (26, .inl (bz_putI 10 1)) :: (29, .inl (bz_aload 0 1)) ::
  (30, .inl (bz_dup)) :: (31, .inl (bz_getI 10 1)) :: (34, .inl (bz_aload 0 1)) :: (35, .inl (bz_getI 10 22)) :: (38, .inl (bz_if_lt 53)) :: (41, .inl (bz_aload 0 1)) ::
  (42, .inl (bz_getI 10 22)) :: (45, .inl (bz_iload 1 1)) :: (46, .inl (bz_ic_eq 53)) :: (49, .inl (bz_push (.int 3) 1)) :: (50, .inl (bz_goto 54)) :: (53, .inl (bz_push (.int 0) 1)) ::
  (54, .inl (bz_iadd)) :: (55, .inl (bz_putI 10 1)) :: (58, .inl (bz_aload 0 1)) :: (59, .inl (bz_dup)) :: (60, .inl (bz_getI 10 2)) :: (63, .inl (bz_aload 0 1)) ::
  (64, .inl (bz_getI 10 22)) :: (67, .inl (bz_iload 1 1)) :: (68, .inl (bz_ic_ne 75)) :: (71, .inl (bz_push (.int 1) 1)) :: (72, .inl (bz_goto 76)) :: (75, .inl (bz_push (.int 0) 1)) ::
  (76, .inl (bz_iadd)) :: (77, .inl (bz_putI 10 2)) :: (80, .inl (bz_aload 0 1)) :: (81, .inl (bz_dup)) :: (82, .inl (bz_getI 10 2)) :: (85, .inl (bz_aload 0 1)) ::
  (86, .inl (bz_getI 10 17)) :: (89, .inl (bz_if_le 103)) :: (92, .inl (bz_aload 0 1)) :: (93, .inl (bz_getI 10 19)) :: (96, .inl (bz_if_ne 103)) :: (99, .inl (bz_push (.int 1) 1)) ::
  (100, .inl (bz_goto 104)) :: (103, .inl (bz_push (.int 0) 1)) :: (104, .inl (bz_iadd)) :: (105, .inl (bz_putI 10 2)) :: (108, .inl (bz_aload 0 1)) :: (109, .inl (bz_dup)) ::
  (110, .inl (bz_getI 10 23)) :: (113, .inl (bz_aload 0 1)) :: (114, .inl (bz_getI 10 17)) :: (117, .inl (bz_iadd)) :: (118, .inl (bz_putI 10 23)) :: (121, .inl (bz_aload 0 1)) ::
  (122, .inl (bz_dup)) :: (123, .inl (bz_getI 10 24)) :: (126, .inl (bz_aload 0 1)) :: (127, .inl (bz_getI 10 18)) :: (130, .inl (bz_iadd)) :: (131, .inl (bz_putI 10 24)) ::
  (134, .inr (.inr 0)) :: []
def bm_X11_stroke : bz_M := (RX11, yX11_stroke, cX11_stroke, 4, none, 4, 96, bt_X11_stroke)
def bt_X11_columnOf : List bz_E := (0, .inl (bz_iload 0 1)) :: (1, .inl (bz_if_ge 9)) :: (4, .inl (bz_push (.int 9) 2)) :: (6, .inl (bz_goto 13)) :: (9, .inl (bz_iload 0 1)) :: (10, .inl (bz_push (.int 9) 2)) ::
  (12, .inl (bz_irem)) :: (13, .inr (.inr 1)) :: []
def bm_X11_columnOf : bz_M := (RX11, yX11_columnOf, cX11_columnOf, 1, (some .int), 0, 0, bt_X11_columnOf)
def bt_X11_drift : List bz_E := (0, .inl (bz_aload 0 1)) :: (1, .inl (bz_getR 10 0)) :: (4, .inl (bz_iload 1 1)) :: (5, .inl (bz_iald)) :: (6, .inl (bz_istore 2 1)) :: (7, .inl (bz_iload 2 1)) ::
  (8, .inl (bz_if_lt 46)) :: (11, .inl (bz_iload 2 1)) :: (12, .inl (bz_push (.int 9) 2)) :: (14, .inl (bz_irem)) :: (15, .inl (bz_if_le 46)) :: (18, .inl (bz_iload 2 1)) ::
  (19, .inl (bz_push (.int 1) 1)) :: (20, .inl (bz_isub)) :: (21, .inr (.inl (mX11_isPocket, 1, 0))) :: (24, .inl (bz_if_ne 46)) :: (27, .inl (bz_aload 0 1)) :: (28, .inl (bz_iload 2 1)) ::
  (29, .inl (bz_push (.int 1) 1)) :: (30, .inl (bz_isub)) :: (31, .inr (.inl (mX11_ballOn, 2, 11))) :: (34, .inl (bz_if_ge 46)) :: (37, .inl (bz_aload 0 1)) :: (38, .inl (bz_getR 10 0)) ::
  (41, .inl (bz_iload 1 1)) :: (42, .inl (bz_iload 2 1)) :: (43, .inl (bz_push (.int 1) 1)) :: (44, .inl (bz_isub)) :: (45, .inl (bz_iast)) :: (46, .inr (.inr 0)) :: []
def bm_X11_drift : bz_M := (RX11, yX11_drift, cX11_drift, 3, none, 1, 23, bt_X11_drift)
def bt_X11_nap : List bz_E := (0, .inl (bz_push (.int 0) 1)) :: (1, .inl (bz_istore 1 1)) :: (2, .inl (bz_iload 1 1)) :: (3, .inl (bz_push (.int 3) 1)) :: (4, .inl (bz_ic_ge 28)) :: (7, .inl (bz_aload 0 1)) ::
  (8, .inl (bz_getR 10 25)) :: (11, .inl (bz_iload 1 1)) :: (12, .inl (bz_aload 0 1)) :: (13, .inl (bz_getR 10 0)) :: (16, .inl (bz_iload 1 1)) :: (17, .inl (bz_iald)) ::
  (18, .inr (.inl (mX11_columnOf, 1, 0))) :: (21, .inl (bz_iast)) :: (22, .inl (bz_iinc 1 1)) :: (25, .inl (bz_goto 2)) :: (28, .inl (bz_push (.int 0) 1)) :: (29, .inl (bz_istore 1 1)) ::
  (30, .inl (bz_iload 1 1)) :: (31, .inl (bz_push (.int 9) 2)) :: (33, .inl (bz_ic_ge 70)) :: (36, .inl (bz_push (.int 0) 1)) :: (37, .inl (bz_istore 2 1)) :: (38, .inl (bz_iload 2 1)) ::
  (39, .inl (bz_push (.int 3) 1)) :: (40, .inl (bz_ic_ge 64)) :: (43, .inl (bz_aload 0 1)) :: (44, .inl (bz_getR 10 25)) :: (47, .inl (bz_iload 2 1)) :: (48, .inl (bz_iald)) ::
  (49, .inl (bz_iload 1 1)) :: (50, .inl (bz_ic_ne 58)) :: (53, .inl (bz_aload 0 1)) :: (54, .inl (bz_iload 2 1)) :: (55, .inr (.inl (mX11_drift, 2, 11))) :: (58, .inl (bz_iinc 2 1)) ::
  (61, .inl (bz_goto 38)) :: (64, .inl (bz_iinc 1 1)) :: (67, .inl (bz_goto 30)) :: (70, .inr (.inr 0)) :: []
def bm_X11_nap : bz_M := (RX11, yX11_nap, cX11_nap, 3, none, 2, 45, bt_X11_nap)
def bt_X11_whyNot : List bz_E := (0, .inl (bz_iload 1 1)) :: (1, .inl (bz_switch (bz_mk 0 [32, 47, 92, 77]) 92)) :: (32, .inl (bz_aload 0 1)) :: (33, .inl (bz_getR 10 0)) :: (36, .inl (bz_iload 2 1)) :: (37, .inl (bz_iald)) ::
  (38, .inl (bz_if_ge 45)) :: (41, .inl (bz_push (.int 1) 1)) :: (42, .inl (bz_goto 46)) :: (45, .inl (bz_push (.int 0) 1)) :: (46, .inr (.inr 1)) :: (47, .inl (bz_aload 0 1)) ::
  (48, .inl (bz_getR 10 0)) :: (51, .inl (bz_iload 2 1)) :: (52, .inl (bz_iald)) :: (53, .inl (bz_if_lt 60)) :: (56, .inl (bz_push (.int 1) 1)) :: (57, .inl (bz_goto 76)) ::
  (60, .inl (bz_aload 0 1)) :: (61, .inl (bz_iload 2 1)) :: (62, .inr (.inl (mX11_home, 1, 0))) :: (65, .inr (.inl (mX11_ballOn, 2, 11))) :: (68, .inl (bz_if_lt 75)) :: (71, .inl (bz_push (.int 2) 1)) ::
  (72, .inl (bz_goto 76)) :: (75, .inl (bz_push (.int 0) 1)) :: (76, .inr (.inr 1)) :: (77, .inl (bz_aload 0 1)) :: (78, .inl (bz_getI 10 3)) :: (81, .inl (bz_push (.int 99) 2)) ::
  (83, .inl (bz_ic_ne 90)) :: (86, .inl (bz_push (.int 3) 1)) :: (87, .inl (bz_goto 91)) :: (90, .inl (bz_push (.int 0) 1)) :: (91, .inr (.inr 1)) :: (92, .inl (bz_push (.int 0) 1)) ::
  (93, .inr (.inr 1)) :: []
def bm_X11_whyNot : bz_M := (RX11, yX11_whyNot, cX11_whyNot, 3, (some .int), 1, 23, bt_X11_whyNot)
def bt_X11_happen : List bz_E := (0, .inl (bz_iload 1 1)) :: (1, .inl (bz_switch (bz_mk 0 [28, 39, 52]) 59)) :: (28, .inl (bz_aload 0 1)) :: (29, .inl (bz_iload 2 1)) :: (30, .inl (bz_iload 3 1)) :: (31, .inl (bz_iload 4 2)) ::
  (33, .inr (.inl (mX11_stroke, 4, 11))) :: (36, .inl (bz_goto 69)) :: (39, .inl (bz_aload 0 1)) :: (40, .inl (bz_getR 10 0)) :: (43, .inl (bz_iload 2 1)) :: (44, .inl (bz_iload 2 1)) ::
  (45, .inr (.inl (mX11_home, 1, 0))) :: (48, .inl (bz_iast)) :: (49, .inl (bz_goto 69)) :: (52, .inl (bz_aload 0 1)) :: (53, .inr (.inl (mX11_nap, 1, 11))) :: (56, .inl (bz_goto 69)) ::
  (59, .inl (bz_aload 0 1)) :: (60, .inl (bz_dup)) :: (61, .inl (bz_getI 10 3)) :: (64, .inl (bz_push (.int 1) 1)) :: (65, .inl (bz_iadd)) :: (66, .inl (bz_putI 10 3)) ::
  (69, .inr (.inr 0)) :: []
def bm_X11_happen : bz_M := (RX11, yX11_happen, cX11_happen, 5, none, 5, 119, bt_X11_happen)
def bt_X11_keepNow : List bz_E := (0, .inl (bz_push (.int 0) 1)) :: (1, .inl (bz_istore 1 1)) :: (2, .inl (bz_iload 1 1)) :: (3, .inl (bz_push (.int 3) 1)) :: (4, .inl (bz_ic_ge 25)) :: (7, .inl (bz_aload 0 1)) ::
  (8, .inl (bz_getR 10 26)) :: (11, .inl (bz_iload 1 1)) :: (12, .inl (bz_aload 0 1)) :: (13, .inl (bz_getR 10 0)) :: (16, .inl (bz_iload 1 1)) :: (17, .inl (bz_iald)) ::
  (18, .inl (bz_iast)) :: (19, .inl (bz_iinc 1 1)) :: (22, .inl (bz_goto 2)) :: (25, .inl (bz_aload 0 1)) :: (26, .inl (bz_getR 10 26)) :: (29, .inl (bz_push (.int 3) 1)) ::
  (30, .inl (bz_aload 0 1)) :: (31, .inl (bz_getI 10 1)) :: (34, .inl (bz_iast)) :: (35, .inl (bz_aload 0 1)) :: (36, .inl (bz_getR 10 26)) :: (39, .inl (bz_push (.int 4) 1)) ::
  (40, .inl (bz_aload 0 1)) :: (41, .inl (bz_getI 10 2)) :: (44, .inl (bz_iast)) :: (45, .inl (bz_aload 0 1)) :: (46, .inl (bz_getR 10 26)) :: (49, .inl (bz_push (.int 5) 1)) ::
  (50, .inl (bz_aload 0 1)) :: (51, .inl (bz_getI 10 3)) :: (54, .inl (bz_iast)) :: (55, .inr (.inr 0)) :: []
def bm_X11_keepNow : bz_M := (RX11, yX11_keepNow, cX11_keepNow, 2, none, 0, 0, bt_X11_keepNow)
def bt_X11_back : List bz_E := (0, .inl (bz_push (.int 0) 1)) :: (1, .inl (bz_istore 2 1)) :: (2, .inl (bz_iload 2 1)) :: (3, .inl (bz_push (.int 3) 1)) :: (4, .inl (bz_ic_ge 25)) :: (7, .inl (bz_aload 0 1)) ::
  (8, .inl (bz_getR 10 0)) :: (11, .inl (bz_iload 2 1)) :: (12, .inl (bz_aload 0 1)) :: (13, .inl (bz_getR 10 26)) :: (16, .inl (bz_iload 2 1)) :: (17, .inl (bz_iald)) ::
  (18, .inl (bz_iast)) :: (19, .inl (bz_iinc 2 1)) :: (22, .inl (bz_goto 2)) :: (25, .inl (bz_aload 0 1)) :: (26, .inl (bz_aload 0 1)) :: (27, .inl (bz_getR 10 26)) ::
  (30, .inl (bz_push (.int 3) 1)) :: (31, .inl (bz_iald)) :: (32, .inl (bz_putI 10 1)) :: (35, .inl (bz_aload 0 1)) :: (36, .inl (bz_aload 0 1)) :: (37, .inl (bz_getR 10 26)) ::
  (40, .inl (bz_push (.int 4) 1)) :: (41, .inl (bz_iald)) :: (42, .inl (bz_putI 10 2)) :: (45, .inl (bz_aload 0 1)) :: (46, .inl (bz_aload 0 1)) :: (47, .inl (bz_getR 10 26)) ::
  (50, .inl (bz_push (.int 5) 1)) :: (51, .inl (bz_iald)) :: (52, .inl (bz_putI 10 3)) :: (55, .inl (bz_iload 1 1)) :: (56, .inr (.inr 1)) :: []
def bm_X11_back : bz_M := (RX11, yX11_back, cX11_back, 3, (some .int), 0, 0, bt_X11_back)
def bt_X11_goCrises : List bz_E := (0, .inl (bz_aload 0 1)) :: (1, .inl (bz_push (.int (-6)) 2)) :: (3, .inl (bz_putI 10 27)) :: (6, .inl (bz_aload 0 1)) :: (7, .inl (bz_push (.int (-6)) 2)) :: (9, .inl (bz_putI 10 28)) ::
  (12, .inl (bz_aload 0 1)) :: (13, .inl (bz_push (.int (-6)) 2)) :: (15, .inl (bz_putI 10 29)) :: (18, .inl (bz_aload 0 1)) :: (19, .inl (bz_push (.int 0) 1)) :: (20, .inl (bz_putI 10 23)) ::
  (23, .inl (bz_aload 0 1)) :: (24, .inl (bz_push (.int 0) 1)) :: (25, .inl (bz_putI 10 24)) :: (28, .inl (bz_push (.int 0) 1)) :: (29, .inl (bz_istore 1 1)) :: (30, .inl (bz_iload 1 1)) ::
  (31, .inl (bz_aload 0 1)) :: (32, .inl (bz_getI 10 13)) :: (35, .inl (bz_ic_ge 160)) :: (38, .inl (bz_aload 0 1)) :: (39, .inl (bz_getI 10 27)) :: (42, .inl (bz_if_ge 160)) ::
  (45, .inl (bz_aload 0 1)) :: (46, .inl (bz_aload 0 1)) :: (47, .inl (bz_getR 10 9)) :: (50, .inl (bz_iload 1 1)) :: (51, .inl (bz_iald)) :: (52, .inl (bz_aload 0 1)) ::
  (53, .inl (bz_getR 10 10)) :: (56, .inl (bz_iload 1 1)) :: (57, .inl (bz_iald)) :: (58, .inr (.inl (mX11_whyNot, 3, 11))) :: (61, .inl (bz_istore 2 1)) :: (62, .inl (bz_aload 0 1)) ::
  (63, .inl (bz_getI 10 2)) :: (66, .inl (bz_istore 3 1)) :: (67, .inl (bz_aload 0 1)) :: (68, .inl (bz_iload 2 1)) :: (69, .inl (bz_if_le 76)) :: (72, .inl (bz_iload 1 1)) ::
  (73, .inl (bz_goto 78)) :: (76, .inl (bz_push (.int (-6)) 2)) :: (78, .inl (bz_putI 10 27)) :: (81, .inl (bz_aload 0 1)) :: (82, .inl (bz_iload 2 1)) :: (83, .inl (bz_if_le 90)) ::
  (86, .inl (bz_iload 2 1)) :: (87, .inl (bz_goto 92)) :: (90, .inl (bz_push (.int (-6)) 2)) :: (92, .inl (bz_putI 10 28)) :: (95, .inl (bz_iload 2 1)) :: (96, .inl (bz_if_ne 127)) ::
  (99, .inl (bz_aload 0 1)) :: (100, .inl (bz_aload 0 1)) :: (101, .inl (bz_getR 10 9)) :: (104, .inl (bz_iload 1 1)) :: (105, .inl (bz_iald)) :: (106, .inl (bz_aload 0 1)) ::
  (107, .inl (bz_getR 10 10)) :: (110, .inl (bz_iload 1 1)) :: (111, .inl (bz_iald)) :: (112, .inl (bz_aload 0 1)) :: (113, .inl (bz_getR 10 11)) :: (116, .inl (bz_iload 1 1)) ::
  (117, .inl (bz_iald)) :: (118, .inl (bz_aload 0 1)) :: (119, .inl (bz_getR 10 12)) :: (122, .inl (bz_iload 1 1)) :: (123, .inl (bz_iald)) :: (124, .inr (.inl (mX11_happen, 5, 11))) ::
  (127, .inl (bz_aload 0 1)) :: (128, .inl (bz_aload 0 1)) :: (129, .inl (bz_getI 10 2)) :: (132, .inl (bz_iload 3 1)) :: (133, .inl (bz_ic_le 147)) :: (136, .inl (bz_aload 0 1)) ::
  (137, .inl (bz_getI 10 29)) :: (140, .inl (bz_if_ge 147)) :: (143, .inl (bz_iload 1 1)) :: (144, .inl (bz_goto 151)) :: (147, .inl (bz_aload 0 1)) :: (148, .inl (bz_getI 10 29)) ::
  (151, .inl (bz_putI 10 29)) :: (154, .inl (bz_iinc 1 1)) :: (157, .inl (bz_goto 30)) :: (160, .inr (.inr 0)) :: []
def bm_X11_goCrises : bz_M := (RX11, yX11_goCrises, cX11_goCrises, 4, none, 6, 143, bt_X11_goCrises)
def bt_X11_refusal : List bz_E := (0, .inl (bz_aload 0 1)) :: (1, .inr (.inl (mX11_keepNow, 1, 11))) :: (4, .inl (bz_aload 0 1)) :: (5, .inr (.inl (mX11_fault, 1, 11))) :: (8, .inl (bz_if_lt 14)) :: (11, .inl (bz_push (.int (-5)) 2)) ::
  (13, .inr (.inr 1)) :: (14, .inl (bz_aload 0 1)) :: (15, .inr (.inl (mX11_goCrises, 1, 11))) :: (18, .inl (bz_aload 0 1)) :: (19, .inl (bz_getI 10 27)) :: (22, .inl (bz_if_lt 30)) ::
  (25, .inl (bz_push (.int (-3)) 2)) :: (27, .inl (bz_goto 32)) :: (30, .inl (bz_push (.int (-6)) 2)) :: (32, .inr (.inr 1)) :: []
def bm_X11_refusal : bz_M := (RX11, yX11_refusal, cX11_refusal, 1, (some .int), 7, 166, bt_X11_refusal)
def bt_X11_judge : List bz_E := (0, .inl (bz_iload 1 1)) :: (1, .inl (bz_i2l)) :: (2, .inl (bz_push (.long 0) 1)) :: (3, .inl (bz_push (.long 2) 3)) :: (6, .inr (.inl (mX11_in, 3, 0))) :: (9, .inl (bz_if_ne 15)) ::
  (12, .inl (bz_push (.int (-2)) 2)) :: (14, .inr (.inr 1)) :: (15, .inl (bz_aload 0 1)) :: (16, .inl (bz_aload 0 1)) :: (17, .inr (.inl (mX11_refusal, 1, 11))) :: (20, .inr (.inl (mX11_back, 2, 11))) ::
  (23, .inl (bz_istore 2 1)) :: (24, .inl (bz_iload 2 1)) :: (25, .inl (bz_push (.int (-5)) 2)) :: (27, .inl (bz_ic_eq 41)) :: (30, .inl (bz_iload 1 1)) :: (31, .inl (bz_push (.int 1) 1)) ::
  (32, .inl (bz_ic_le 43)) :: (35, .inl (bz_iload 2 1)) :: (36, .inl (bz_push (.int (-3)) 2)) :: (38, .inl (bz_ic_ne 43)) :: (41, .inl (bz_iload 2 1)) :: (42, .inr (.inr 1)) ::
  (43, .inl (bz_iload 1 1)) :: (44, .inl (bz_if_ne 54)) :: (47, .inl (bz_aload 0 1)) :: (48, .inl (bz_getI 10 27)) :: (51, .inl (bz_goto 70)) :: (54, .inl (bz_iload 1 1)) ::
  (55, .inl (bz_push (.int 1) 1)) :: (56, .inl (bz_ic_ne 66)) :: (59, .inl (bz_aload 0 1)) :: (60, .inl (bz_getI 10 28)) :: (63, .inl (bz_goto 70)) :: (66, .inl (bz_aload 0 1)) ::
  (67, .inl (bz_getI 10 23)) :: (70, .inr (.inr 1)) :: []
def bm_X11_judge : bz_M := (RX11, yX11_judge, cX11_judge, 3, (some .int), 8, 186, bt_X11_judge)
def bt_X11_behind : List bz_E := (0, .inl (bz_iload 1 1)) :: (1, .inr (.inl (mX11_isBall, 1, 0))) :: (4, .inl (bz_if_ne 9)) :: (7, .inl (bz_push (.int (-1)) 1)) :: (8, .inr (.inr 1)) :: (9, .inl (bz_aload 0 1)) ::
  (10, .inr (.inl (mX11_refusal, 1, 11))) :: (13, .inl (bz_istore 2 1)) :: (14, .inl (bz_aload 0 1)) :: (15, .inl (bz_iload 2 1)) :: (16, .inl (bz_push (.int (-6)) 2)) :: (18, .inl (bz_ic_eq 25)) ::
  (21, .inl (bz_iload 2 1)) :: (22, .inl (bz_goto 31)) :: (25, .inl (bz_aload 0 1)) :: (26, .inl (bz_getR 10 0)) :: (29, .inl (bz_iload 1 1)) :: (30, .inl (bz_iald)) ::
  (31, .inr (.inl (mX11_back, 2, 11))) :: (34, .inr (.inr 1)) :: []
def bm_X11_behind : bz_M := (RX11, yX11_behind, cX11_behind, 3, (some .int), 8, 186, bt_X11_behind)
def bt_X11_downMany : List bz_E := (0, .inl (bz_push (.int 0) 1)) :: (1, .inl (bz_istore 1 1)) :: (2, .inl (bz_push (.int 0) 1)) :: (3, .inl (bz_istore 2 1)) :: (4, .inl (bz_iload 2 1)) :: (5, .inl (bz_push (.int 3) 1)) ::
  (6, .inl (bz_ic_ge 32)) :: (9, .inl (bz_iload 1 1)) :: (10, .inl (bz_aload 0 1)) :: (11, .inl (bz_getR 10 0)) :: (14, .inl (bz_iload 2 1)) :: (15, .inl (bz_iald)) ::
  (16, .inl (bz_if_ge 23)) :: (19, .inl (bz_push (.int 1) 1)) :: (20, .inl (bz_goto 24)) :: (23, .inl (bz_push (.int 0) 1)) :: (24, .inl (bz_iadd)) :: (25, .inl (bz_istore 1 1)) ::
  (26, .inl (bz_iinc 2 1)) :: (29, .inl (bz_goto 4)) :: (32, .inl (bz_iload 1 1)) :: (33, .inr (.inr 1)) :: []
def bm_X11_downMany : bz_M := (RX11, yX11_downMany, cX11_downMany, 3, (some .int), 0, 0, bt_X11_downMany)
def bt_X11_table : List bz_E := (0, .inl (bz_iload 1 1)) :: (1, .inl (bz_i2l)) :: (2, .inl (bz_push (.long 0) 1)) :: (3, .inl (bz_push (.long 3) 3)) :: (6, .inr (.inl (mX11_in, 3, 0))) :: (9, .inl (bz_if_ne 15)) ::
  (12, .inl (bz_push (.int (-2)) 2)) :: (14, .inr (.inr 1)) :: (15, .inl (bz_aload 0 1)) :: (16, .inr (.inl (mX11_refusal, 1, 11))) :: (19, .inl (bz_istore 2 1)) :: (20, .inl (bz_aload 0 1)) ::
  (21, .inl (bz_iload 2 1)) :: (22, .inl (bz_push (.int (-6)) 2)) :: (24, .inl (bz_ic_eq 31)) :: (27, .inl (bz_iload 2 1)) :: (28, .inl (bz_goto 70)) :: (31, .inl (bz_iload 1 1)) ::
  (32, .inl (bz_if_ne 42)) :: (35, .inl (bz_aload 0 1)) :: (36, .inl (bz_getI 10 1)) :: (39, .inl (bz_goto 70)) :: (42, .inl (bz_iload 1 1)) :: (43, .inl (bz_push (.int 1) 1)) ::
  (44, .inl (bz_ic_ne 54)) :: (47, .inl (bz_aload 0 1)) :: (48, .inl (bz_getI 10 2)) :: (51, .inl (bz_goto 70)) :: (54, .inl (bz_iload 1 1)) :: (55, .inl (bz_push (.int 2) 1)) ::
  (56, .inl (bz_ic_ne 66)) :: (59, .inl (bz_aload 0 1)) :: (60, .inr (.inl (mX11_downMany, 1, 11))) :: (63, .inl (bz_goto 70)) :: (66, .inl (bz_aload 0 1)) :: (67, .inl (bz_getI 10 3)) ::
  (70, .inr (.inl (mX11_back, 2, 11))) :: (73, .inr (.inr 1)) :: []
def bm_X11_table : bz_M := (RX11, yX11_table, cX11_table, 3, (some .int), 8, 186, bt_X11_table)
def bt_X11_candour : List bz_E := (0, .inl (bz_iload 1 1)) :: (1, .inl (bz_i2l)) :: (2, .inl (bz_push (.long 0) 1)) :: (3, .inl (bz_push (.long 1) 1)) :: (4, .inr (.inl (mX11_in, 3, 0))) :: (7, .inl (bz_if_ne 13)) ::
  (10, .inl (bz_push (.int (-2)) 2)) :: (12, .inr (.inr 1)) :: (13, .inl (bz_aload 0 1)) :: (14, .inl (bz_aload 0 1)) :: (15, .inr (.inl (mX11_refusal, 1, 11))) :: (18, .inr (.inl (mX11_back, 2, 11))) ::
  (21, .inl (bz_istore 2 1)) :: (22, .inl (bz_iload 2 1)) :: (23, .inl (bz_push (.int (-6)) 2)) :: (25, .inl (bz_ic_eq 32)) :: (28, .inl (bz_iload 2 1)) :: (29, .inl (bz_goto 47)) ::
  (32, .inl (bz_iload 1 1)) :: (33, .inl (bz_if_ne 43)) :: (36, .inl (bz_aload 0 1)) :: (37, .inl (bz_getI 10 29)) :: (40, .inl (bz_goto 47)) :: (43, .inl (bz_aload 0 1)) ::
  (44, .inl (bz_getI 10 24)) :: (47, .inr (.inr 1)) :: []
def bm_X11_candour : bz_M := (RX11, yX11_candour, cX11_candour, 3, (some .int), 8, 186, bt_X11_candour)
def bt_X11_done : List bz_E := (0, .inl (bz_aload 0 1)) :: (1, .inr (.inl (mX11_refusal, 1, 11))) :: (4, .inl (bz_istore 1 1)) :: (5, .inl (bz_iload 1 1)) :: (6, .inl (bz_push (.int (-6)) 2)) :: (8, .inl (bz_ic_eq 17)) ::
  (11, .inl (bz_aload 0 1)) :: (12, .inl (bz_iload 1 1)) :: (13, .inr (.inl (mX11_back, 2, 11))) :: (16, .inr (.inr 1)) :: (17, .inl (bz_aload 0 1)) :: (18, .inl (bz_push (.int 0) 1)) ::
  (19, .inl (bz_putI 10 8)) :: (22, .inl (bz_aload 0 1)) :: (23, .inl (bz_getI 10 13)) :: (26, .inr (.inr 1)) :: []
def bm_X11_done : bz_M := (RX11, yX11_done, cX11_done, 2, (some .int), 8, 186, bt_X11_done)
def bt_X11_stepsBy : List bz_E := (0, .inl (bz_aload 0 1)) :: (1, .inr (.inl (mX11_keepNow, 1, 11))) :: (4, .inl (bz_aload 0 1)) :: (5, .inl (bz_iload 1 1)) :: (6, .inl (bz_iload 4 2)) :: (8, .inl (bz_push (.int 9) 2)) ::
  (10, .inr (.inl (mX11_send, 4, 11))) :: (13, .inl (bz_aload 0 1)) :: (14, .inl (bz_getI 10 20)) :: (17, .inl (bz_iload 2 1)) :: (18, .inl (bz_ic_ne 33)) :: (21, .inl (bz_aload 0 1)) ::
  (22, .inl (bz_getI 10 19)) :: (25, .inl (bz_iload 3 1)) :: (26, .inl (bz_ic_ne 33)) :: (29, .inl (bz_push (.int 1) 1)) :: (30, .inl (bz_goto 34)) :: (33, .inl (bz_push (.int 0) 1)) ::
  (34, .inl (bz_istore 5 2)) :: (36, .inl (bz_aload 0 1)) :: (37, .inl (bz_iload 5 2)) :: (39, .inl (bz_if_eq 49)) :: (42, .inl (bz_aload 0 1)) :: (43, .inl (bz_getI 10 21)) ::
  (46, .inl (bz_goto 51)) :: (49, .inl (bz_push (.int (-6)) 2)) :: (51, .inr (.inl (mX11_back, 2, 11))) :: (54, .inr (.inr 1)) :: []
def bm_X11_stepsBy : bz_M := (RX11, yX11_stepsBy, cX11_stepsBy, 6, (some .int), 4, 96, bt_X11_stepsBy)
def bt_X11_hint : List bz_E := (0, .inl (bz_iload 1 1)) :: (1, .inr (.inl (mX11_isBall, 1, 0))) :: (4, .inl (bz_if_eq 19)) :: (7, .inl (bz_iload 2 1)) :: (8, .inr (.inl (mX11_isBall, 1, 0))) :: (11, .inl (bz_if_eq 19)) ::
  (14, .inl (bz_iload 1 1)) :: (15, .inl (bz_iload 2 1)) :: (16, .inl (bz_ic_ne 21)) :: (19, .inl (bz_push (.int (-1)) 1)) :: (20, .inr (.inr 1)) :: (21, .inl (bz_iload 3 1)) ::
  (22, .inl (bz_i2l)) :: (23, .inl (bz_push (.long 0) 1)) :: (24, .inl (bz_push (.long 4) 3)) :: (27, .inr (.inl (mX11_in, 3, 0))) :: (30, .inl (bz_if_eq 44)) :: (33, .inl (bz_iload 4 2)) ::
  (35, .inl (bz_i2l)) :: (36, .inl (bz_push (.long 0) 1)) :: (37, .inl (bz_push (.long 1) 1)) :: (38, .inr (.inl (mX11_in, 3, 0))) :: (41, .inl (bz_if_ne 47)) :: (44, .inl (bz_push (.int (-2)) 2)) ::
  (46, .inr (.inr 1)) :: (47, .inl (bz_push (.int (-6)) 2)) :: (49, .inl (bz_istore 5 2)) :: (51, .inl (bz_push (.int (-6)) 2)) :: (53, .inl (bz_istore 6 2)) :: (55, .inl (bz_push (.int 7) 2)) ::
  (57, .inl (bz_istore 7 2)) :: (59, .inl (bz_iload 7 2)) :: (61, .inl (bz_if_lt 142)) :: (64, .inl (bz_aload 0 1)) :: (65, .inl (bz_getR 10 0)) :: (68, .inl (bz_iload 1 1)) ::
  (69, .inl (bz_iald)) :: (70, .inl (bz_if_lt 142)) :: (73, .inl (bz_aload 0 1)) :: (74, .inl (bz_iload 1 1)) :: (75, .inl (bz_iload 2 1)) :: (76, .inl (bz_iload 3 1)) ::
  (77, .inl (bz_iload 7 2)) :: (79, .inr (.inl (mX11_stepsBy, 5, 11))) :: (82, .inl (bz_istore 8 2)) :: (84, .inl (bz_iload 8 2)) :: (86, .inl (bz_if_lt 105)) :: (89, .inl (bz_iload 5 2)) ::
  (91, .inl (bz_if_lt 101)) :: (94, .inl (bz_iload 8 2)) :: (96, .inl (bz_iload 5 2)) :: (98, .inl (bz_ic_gt 105)) :: (101, .inl (bz_push (.int 1) 1)) :: (102, .inl (bz_goto 106)) ::
  (105, .inl (bz_push (.int 0) 1)) :: (106, .inl (bz_istore 9 2)) :: (108, .inl (bz_iload 9 2)) :: (110, .inl (bz_if_eq 118)) :: (113, .inl (bz_iload 7 2)) :: (115, .inl (bz_goto 120)) ::
  (118, .inl (bz_iload 6 2)) :: (120, .inl (bz_istore 6 2)) :: (122, .inl (bz_iload 9 2)) :: (124, .inl (bz_if_eq 132)) :: (127, .inl (bz_iload 8 2)) :: (129, .inl (bz_goto 134)) ::
  (132, .inl (bz_iload 5 2)) :: (134, .inl (bz_istore 5 2)) :: (136, .inl (bz_iinc 7 (-1))) :: (139, .inl (bz_goto 59)) :: (142, .inl (bz_iload 4 2)) :: (144, .inl (bz_if_ne 152)) ::
  (147, .inl (bz_iload 5 2)) :: (149, .inl (bz_goto 154)) :: (152, .inl (bz_iload 6 2)) :: (154, .inr (.inr 1)) :: []
def bm_X11_hint : bz_M := (RX11, yX11_hint, cX11_hint, 10, (some .int), 5, 121, bt_X11_hint)
def bt_X11_next : List bz_E := (0, .inl (bz_iload 0 1)) :: (1, .inl (bz_push (.int 10) 2)) :: (3, .inl (bz_idiv)) :: (4, .inl (bz_iload 0 1)) :: (5, .inl (bz_push (.int 10) 2)) :: (7, .inl (bz_irem)) ::
  (8, .inr (.inl (mX11_turned, 2, 0))) :: (11, .inl (bz_istore 1 1)) :: (12, .inl (bz_push (.int 10) 2)) :: (14, .inl (bz_iload 0 1)) :: (15, .inl (bz_push (.int 10) 2)) :: (17, .inl (bz_idiv)) ::
  (18, .inl (bz_iload 1 1)) :: (19, .inr (.inl (mX11_ahead, 2, 0))) :: (22, .inl (bz_imul)) :: (23, .inl (bz_iload 1 1)) :: (24, .inl (bz_iadd)) :: (25, .inr (.inr 1)) :: []
def bm_X11_next : bz_M := (RX11, yX11_next, cX11_next, 2, (some .int), 2, 49, bt_X11_next)
def bt_X11_behindSteps : List bz_E := (0, .inl (bz_iload 0 1)) :: (1, .inl (bz_istore 2 1)) :: (2, .inl (bz_push (.int 0) 1)) :: (3, .inl (bz_istore 3 1)) :: (4, .inl (bz_iload 3 1)) :: (5, .inl (bz_iload 1 1)) ::
  (6, .inl (bz_ic_ge 20)) :: (9, .inl (bz_iload 2 1)) :: (10, .inr (.inl (mX11_next, 1, 0))) :: (13, .inl (bz_istore 2 1)) :: (14, .inl (bz_iinc 3 1)) :: (17, .inl (bz_goto 4)) ::
  (20, .inl (bz_iload 2 1)) :: (21, .inr (.inr 1)) :: []
def bm_X11_behindSteps : bz_M := (RX11, yX11_behindSteps, cX11_behindSteps, 4, (some .int), 3, 70, bt_X11_behindSteps)
def bt_X11_metMany : List bz_E := (0, .inl (bz_push (.int 0) 1)) :: (1, .inl (bz_istore 2 1)) :: (2, .inl (bz_iload 2 1)) :: (3, .inl (bz_push (.int 45) 2)) :: (5, .inl (bz_ic_ge 21)) :: (8, .inl (bz_aload 0 1)) ::
  (9, .inl (bz_getR 10 30)) :: (12, .inl (bz_iload 2 1)) :: (13, .inl (bz_push (.int 0) 1)) :: (14, .inl (bz_zast)) :: (15, .inl (bz_iinc 2 1)) :: (18, .inl (bz_goto 2)) ::
  (21, .inl (bz_iload 1 1)) :: (22, .inl (bz_istore 2 1)) :: (23, .inl (bz_push (.int 0) 1)) :: (24, .inl (bz_istore 3 1)) :: (25, .inl (bz_push (.int 0) 1)) :: (26, .inl (bz_istore 4 2)) ::
  (28, .inl (bz_iload 4 2)) :: (30, .inl (bz_push (.int 400) 3)) :: (33, .inl (bz_ic_ge 77)) :: (36, .inl (bz_iload 3 1)) :: (37, .inl (bz_aload 0 1)) :: (38, .inl (bz_getR 10 30)) ::
  (41, .inl (bz_iload 2 1)) :: (42, .inl (bz_push (.int 10) 2)) :: (44, .inl (bz_idiv)) :: (45, .inl (bz_zald)) :: (46, .inl (bz_if_eq 53)) :: (49, .inl (bz_push (.int 0) 1)) ::
  (50, .inl (bz_goto 54)) :: (53, .inl (bz_push (.int 1) 1)) :: (54, .inl (bz_iadd)) :: (55, .inl (bz_istore 3 1)) :: (56, .inl (bz_aload 0 1)) :: (57, .inl (bz_getR 10 30)) ::
  (60, .inl (bz_iload 2 1)) :: (61, .inl (bz_push (.int 10) 2)) :: (63, .inl (bz_idiv)) :: (64, .inl (bz_push (.int 1) 1)) :: (65, .inl (bz_zast)) :: (66, .inl (bz_iload 2 1)) ::
  (67, .inr (.inl (mX11_next, 1, 0))) :: (70, .inl (bz_istore 2 1)) :: (71, .inl (bz_iinc 4 1)) :: (74, .inl (bz_goto 28)) :: (77, .inl (bz_iload 3 1)) :: (78, .inr (.inr 1)) :: []
def bm_X11_metMany : bz_M := (RX11, yX11_metMany, cX11_metMany, 5, (some .int), 3, 70, bt_X11_metMany)
def bt_X11_stepsBack : List bz_E := (0, .inl (bz_iload 0 1)) :: (1, .inr (.inl (mX11_next, 1, 0))) :: (4, .inl (bz_istore 1 1)) :: (5, .inl (bz_push (.int 1) 1)) :: (6, .inl (bz_istore 2 1)) :: (7, .inl (bz_iload 2 1)) ::
  (8, .inl (bz_push (.int 400) 3)) :: (11, .inl (bz_ic_ge 32)) :: (14, .inl (bz_iload 1 1)) :: (15, .inl (bz_iload 0 1)) :: (16, .inl (bz_ic_ne 21)) :: (19, .inl (bz_iload 2 1)) ::
  (20, .inr (.inr 1)) :: (21, .inl (bz_iload 1 1)) :: (22, .inr (.inl (mX11_next, 1, 0))) :: (25, .inl (bz_istore 1 1)) :: (26, .inl (bz_iinc 2 1)) :: (29, .inl (bz_goto 7)) ::
  (32, .inl (bz_push (.int (-6)) 2)) :: (34, .inr (.inr 1)) :: []
def bm_X11_stepsBack : bz_M := (RX11, yX11_stepsBack, cX11_stepsBack, 3, (some .int), 3, 70, bt_X11_stepsBack)
def bt_X11_alone : List bz_E := (0, .inl (bz_iload 1 1)) :: (1, .inr (.inl (mX11_isPlace, 1, 0))) :: (4, .inl (bz_if_ne 9)) :: (7, .inl (bz_push (.int (-1)) 1)) :: (8, .inr (.inr 1)) :: (9, .inl (bz_iload 2 1)) ::
  (10, .inl (bz_i2l)) :: (11, .inl (bz_push (.long 0) 1)) :: (12, .inl (bz_push (.long 7) 3)) :: (15, .inr (.inl (mX11_in, 3, 0))) :: (18, .inl (bz_if_eq 46)) :: (21, .inl (bz_iload 3 1)) ::
  (22, .inl (bz_i2l)) :: (23, .inl (bz_push (.long 0) 1)) :: (24, .inl (bz_push (.long 99999) 3)) :: (27, .inr (.inl (mX11_in, 3, 0))) :: (30, .inl (bz_if_eq 46)) :: (33, .inl (bz_iload 4 2)) ::
  (35, .inl (bz_i2l)) :: (36, .inl (bz_push (.long 0) 1)) :: (37, .inl (bz_push (.long 2) 3)) :: (40, .inr (.inl (mX11_in, 3, 0))) :: (43, .inl (bz_if_ne 49)) :: (46, .inl (bz_push (.int (-2)) 2)) ::
  (48, .inr (.inr 1)) :: (49, .inl (bz_push (.int 10) 2)) :: (51, .inl (bz_iload 1 1)) :: (52, .inl (bz_imul)) :: (53, .inl (bz_iload 2 1)) :: (54, .inl (bz_iadd)) ::
  (55, .inl (bz_istore 5 2)) :: (57, .inl (bz_iload 4 2)) :: (59, .inl (bz_if_ne 74)) :: (62, .inl (bz_iload 5 2)) :: (64, .inl (bz_iload 3 1)) :: (65, .inr (.inl (mX11_behindSteps, 2, 0))) ::
  (68, .inl (bz_push (.int 10) 2)) :: (70, .inl (bz_idiv)) :: (71, .inl (bz_goto 94)) :: (74, .inl (bz_iload 4 2)) :: (76, .inl (bz_push (.int 1) 1)) :: (77, .inl (bz_ic_ne 88)) ::
  (80, .inl (bz_iload 5 2)) :: (82, .inr (.inl (mX11_stepsBack, 1, 0))) :: (85, .inl (bz_goto 94)) :: (88, .inl (bz_aload 0 1)) :: (89, .inl (bz_iload 5 2)) :: (91, .inr (.inl (mX11_metMany, 2, 11))) ::
  (94, .inr (.inr 1)) :: []
def bm_X11_alone : bz_M := (RX11, yX11_alone, cX11_alone, 6, (some .int), 4, 94, bt_X11_alone)
def bt_X11_leadsTo : List bz_E := (0, .inl (bz_push (.int 10) 2)) :: (2, .inl (bz_iload 1 1)) :: (3, .inl (bz_imul)) :: (4, .inl (bz_iload 2 1)) :: (5, .inl (bz_iadd)) :: (6, .inl (bz_istore 4 2)) ::
  (8, .inl (bz_push (.int 0) 1)) :: (9, .inl (bz_istore 5 2)) :: (11, .inl (bz_push (.int 0) 1)) :: (12, .inl (bz_istore 6 2)) :: (14, .inl (bz_push (.int 1) 1)) :: (15, .inl (bz_istore 7 2)) ::
  (17, .inl (bz_iload 7 2)) :: (19, .inl (bz_push (.int 9) 2)) :: (21, .inl (bz_ic_gt 83)) :: (24, .inl (bz_iload 6 2)) :: (26, .inl (bz_if_ne 83)) :: (29, .inl (bz_iload 4 2)) ::
  (31, .inr (.inl (mX11_next, 1, 0))) :: (34, .inl (bz_istore 4 2)) :: (36, .inl (bz_iload 4 2)) :: (38, .inl (bz_push (.int 10) 2)) :: (40, .inl (bz_idiv)) :: (41, .inr (.inl (mX11_isPocket, 1, 0))) ::
  (44, .inl (bz_istore 6 2)) :: (46, .inl (bz_iload 5 2)) :: (48, .inl (bz_if_ne 70)) :: (51, .inl (bz_iload 6 2)) :: (53, .inl (bz_if_ne 74)) :: (56, .inl (bz_aload 0 1)) ::
  (57, .inl (bz_getR 10 31)) :: (60, .inl (bz_iload 4 2)) :: (62, .inl (bz_push (.int 10) 2)) :: (64, .inl (bz_idiv)) :: (65, .inl (bz_iald)) :: (66, .inl (bz_iload 3 1)) ::
  (67, .inl (bz_ic_ne 74)) :: (70, .inl (bz_push (.int 1) 1)) :: (71, .inl (bz_goto 75)) :: (74, .inl (bz_push (.int 0) 1)) :: (75, .inl (bz_istore 5 2)) :: (77, .inl (bz_iinc 7 1)) ::
  (80, .inl (bz_goto 17)) :: (83, .inl (bz_iload 5 2)) :: (85, .inr (.inr 3)) :: []
def bm_X11_leadsTo : bz_M := (RX11, yX11_leadsTo, cX11_leadsTo, 8, (some .boolean), 3, 70, bt_X11_leadsTo)
def bt_X11_wayTo : List bz_E := (0, .inl (bz_push (.int (-6)) 2)) :: (2, .inl (bz_istore 3 1)) :: (3, .inl (bz_push (.int 7) 2)) :: (5, .inl (bz_istore 4 2)) :: (7, .inl (bz_iload 4 2)) :: (9, .inl (bz_if_lt 36)) ::
  (12, .inl (bz_aload 0 1)) :: (13, .inl (bz_iload 1 1)) :: (14, .inl (bz_iload 4 2)) :: (16, .inl (bz_iload 2 1)) :: (17, .inr (.inl (mX11_leadsTo, 4, 11))) :: (20, .inl (bz_if_eq 28)) ::
  (23, .inl (bz_iload 4 2)) :: (25, .inl (bz_goto 29)) :: (28, .inl (bz_iload 3 1)) :: (29, .inl (bz_istore 3 1)) :: (30, .inl (bz_iinc 4 (-1))) :: (33, .inl (bz_goto 7)) ::
  (36, .inl (bz_iload 3 1)) :: (37, .inr (.inr 1)) :: []
def bm_X11_wayTo : bz_M := (RX11, yX11_wayTo, cX11_wayTo, 5, (some .int), 4, 97, bt_X11_wayTo)
def bt_X11_findFar : List bz_E := (0, .inl (bz_push (.int 0) 1)) :: (1, .inl (bz_istore 2 1)) :: (2, .inl (bz_push (.int 0) 1)) :: (3, .inl (bz_istore 3 1)) :: (4, .inl (bz_iload 3 1)) :: (5, .inl (bz_push (.int 45) 2)) ::
  (7, .inl (bz_ic_ge 86)) :: (10, .inl (bz_aload 0 1)) :: (11, .inl (bz_getR 10 31)) :: (14, .inl (bz_iload 3 1)) :: (15, .inl (bz_iald)) :: (16, .inl (bz_if_ge 41)) ::
  (19, .inl (bz_iload 3 1)) :: (20, .inr (.inl (mX11_isPocket, 1, 0))) :: (23, .inl (bz_if_ne 41)) :: (26, .inl (bz_aload 0 1)) :: (27, .inl (bz_iload 3 1)) :: (28, .inl (bz_iload 1 1)) ::
  (29, .inl (bz_push (.int 1) 1)) :: (30, .inl (bz_isub)) :: (31, .inr (.inl (mX11_wayTo, 3, 11))) :: (34, .inl (bz_if_lt 41)) :: (37, .inl (bz_push (.int 1) 1)) :: (38, .inl (bz_goto 42)) ::
  (41, .inl (bz_push (.int 0) 1)) :: (42, .inl (bz_istore 4 2)) :: (44, .inl (bz_aload 0 1)) :: (45, .inl (bz_getR 10 31)) :: (48, .inl (bz_iload 3 1)) :: (49, .inl (bz_iload 4 2)) ::
  (51, .inl (bz_if_eq 58)) :: (54, .inl (bz_iload 1 1)) :: (55, .inl (bz_goto 64)) :: (58, .inl (bz_aload 0 1)) :: (59, .inl (bz_getR 10 31)) :: (62, .inl (bz_iload 3 1)) ::
  (63, .inl (bz_iald)) :: (64, .inl (bz_iast)) :: (65, .inl (bz_iload 2 1)) :: (66, .inl (bz_if_ne 74)) :: (69, .inl (bz_iload 4 2)) :: (71, .inl (bz_if_eq 78)) ::
  (74, .inl (bz_push (.int 1) 1)) :: (75, .inl (bz_goto 79)) :: (78, .inl (bz_push (.int 0) 1)) :: (79, .inl (bz_istore 2 1)) :: (80, .inl (bz_iinc 3 1)) :: (83, .inl (bz_goto 4)) ::
  (86, .inl (bz_iload 2 1)) :: (87, .inr (.inr 3)) :: []
def bm_X11_findFar : bz_M := (RX11, yX11_findFar, cX11_findFar, 5, (some .boolean), 5, 121, bt_X11_findFar)
def bt_X11_strokes : List bz_E := (0, .inl (bz_iload 1 1)) :: (1, .inr (.inl (mX11_isPlace, 1, 0))) :: (4, .inl (bz_if_eq 14)) :: (7, .inl (bz_iload 2 1)) :: (8, .inr (.inl (mX11_isPlace, 1, 0))) :: (11, .inl (bz_if_ne 16)) ::
  (14, .inl (bz_push (.int (-1)) 1)) :: (15, .inr (.inr 1)) :: (16, .inl (bz_iload 3 1)) :: (17, .inl (bz_i2l)) :: (18, .inl (bz_push (.long 0) 1)) :: (19, .inl (bz_push (.long 1) 1)) ::
  (20, .inr (.inl (mX11_in, 3, 0))) :: (23, .inl (bz_if_ne 29)) :: (26, .inl (bz_push (.int (-2)) 2)) :: (28, .inr (.inr 1)) :: (29, .inl (bz_push (.int 0) 1)) :: (30, .inl (bz_istore 4 2)) ::
  (32, .inl (bz_iload 4 2)) :: (34, .inl (bz_push (.int 45) 2)) :: (36, .inl (bz_ic_ge 64)) :: (39, .inl (bz_aload 0 1)) :: (40, .inl (bz_getR 10 31)) :: (43, .inl (bz_iload 4 2)) ::
  (45, .inl (bz_iload 4 2)) :: (47, .inl (bz_iload 2 1)) :: (48, .inl (bz_ic_ne 55)) :: (51, .inl (bz_push (.int 0) 1)) :: (52, .inl (bz_goto 57)) :: (55, .inl (bz_push (.int (-6)) 2)) ::
  (57, .inl (bz_iast)) :: (58, .inl (bz_iinc 4 1)) :: (61, .inl (bz_goto 32)) :: (64, .inl (bz_push (.int 1) 1)) :: (65, .inl (bz_istore 4 2)) :: (67, .inl (bz_push (.int 1) 1)) ::
  (68, .inl (bz_istore 5 2)) :: (70, .inl (bz_iload 4 2)) :: (72, .inl (bz_if_eq 89)) :: (75, .inl (bz_aload 0 1)) :: (76, .inl (bz_iload 5 2)) :: (78, .inr (.inl (mX11_findFar, 2, 11))) ::
  (81, .inl (bz_istore 4 2)) :: (83, .inl (bz_iinc 5 1)) :: (86, .inl (bz_goto 70)) :: (89, .inl (bz_iload 3 1)) :: (90, .inl (bz_if_ne 102)) :: (93, .inl (bz_aload 0 1)) ::
  (94, .inl (bz_getR 10 31)) :: (97, .inl (bz_iload 1 1)) :: (98, .inl (bz_iald)) :: (99, .inl (bz_goto 130)) :: (102, .inl (bz_aload 0 1)) :: (103, .inl (bz_getR 10 31)) ::
  (106, .inl (bz_iload 1 1)) :: (107, .inl (bz_iald)) :: (108, .inl (bz_push (.int 1) 1)) :: (109, .inl (bz_ic_ge 117)) :: (112, .inl (bz_push (.int (-6)) 2)) :: (114, .inl (bz_goto 130)) ::
  (117, .inl (bz_aload 0 1)) :: (118, .inl (bz_iload 1 1)) :: (119, .inl (bz_aload 0 1)) :: (120, .inl (bz_getR 10 31)) :: (123, .inl (bz_iload 1 1)) :: (124, .inl (bz_iald)) ::
  (125, .inl (bz_push (.int 1) 1)) :: (126, .inl (bz_isub)) :: (127, .inr (.inl (mX11_wayTo, 3, 11))) :: (130, .inr (.inr 1)) :: []
def bm_X11_strokes : bz_M := (RX11, yX11_strokes, cX11_strokes, 6, (some .int), 6, 145, bt_X11_strokes)
def bt_X11_seen : List bz_E := (0, .inl (bz_iload 2 1)) :: (1, .inr (.inl (mX11_isCell, 1, 0))) :: (4, .inl (bz_if_ne 9)) :: (7, .inl (bz_push (.int (-1)) 1)) :: (8, .inr (.inr 1)) :: (9, .inl (bz_iload 1 1)) ::
  (10, .inl (bz_i2l)) :: (11, .inl (bz_push (.long 0) 1)) :: (12, .inl (bz_push (.long 60) 3)) :: (15, .inr (.inl (mX11_in, 3, 0))) :: (18, .inl (bz_if_ne 24)) :: (21, .inl (bz_push (.int (-2)) 2)) ::
  (23, .inr (.inr 1)) :: (24, .inl (bz_aload 0 1)) :: (25, .inl (bz_getI 10 6)) :: (28, .inl (bz_push (.int 8) 2)) :: (30, .inl (bz_ic_ne 36)) :: (33, .inl (bz_push (.int (-4)) 2)) ::
  (35, .inr (.inr 1)) :: (36, .inl (bz_aload 0 1)) :: (37, .inl (bz_getR 10 4)) :: (40, .inl (bz_aload 0 1)) :: (41, .inl (bz_getI 10 6)) :: (44, .inl (bz_iload 1 1)) ::
  (45, .inl (bz_iast)) :: (46, .inl (bz_aload 0 1)) :: (47, .inl (bz_getR 10 5)) :: (50, .inl (bz_aload 0 1)) :: (51, .inl (bz_getI 10 6)) :: (54, .inl (bz_iload 2 1)) ::
  (55, .inl (bz_iast)) :: (56, .inl (bz_aload 0 1)) :: (57, .inl (bz_dup)) :: (58, .inl (bz_getI 10 6)) :: (61, .inl (bz_push (.int 1) 1)) :: (62, .inl (bz_iadd)) ::
  (63, .inl (bz_putI 10 6)) :: (66, .inl (bz_aload 0 1)) :: (67, .inl (bz_getI 10 6)) :: (70, .inr (.inr 1)) :: []
def bm_X11_seen : bz_M := (RX11, yX11_seen, cX11_seen, 3, (some .int), 2, 45, bt_X11_seen)
def bt_X11_forget : List bz_E := (0, .inl (bz_aload 0 1)) :: (1, .inl (bz_getI 10 6)) :: (4, .inl (bz_istore 1 1)) :: (5, .inl (bz_aload 0 1)) :: (6, .inl (bz_push (.int 0) 1)) :: (7, .inl (bz_putI 10 6)) ::
  (10, .inl (bz_iload 1 1)) :: (11, .inr (.inr 1)) :: []
def bm_X11_forget : bz_M := (RX11, yX11_forget, cX11_forget, 2, (some .int), 0, 0, bt_X11_forget)
def bt_X11_isFit : List bz_E := (0, .inl (bz_iload 1 1)) :: (1, .inl (bz_push (.int 10) 2)) :: (3, .inl (bz_irem)) :: (4, .inl (bz_push (.int 8) 2)) :: (6, .inl (bz_ic_ge 23)) :: (9, .inl (bz_iload 1 1)) ::
  (10, .inl (bz_push (.int 10) 2)) :: (12, .inl (bz_idiv)) :: (13, .inr (.inl (mX11_isPocket, 1, 0))) :: (16, .inl (bz_if_ne 23)) :: (19, .inl (bz_push (.int 1) 1)) :: (20, .inl (bz_goto 24)) ::
  (23, .inl (bz_push (.int 0) 1)) :: (24, .inl (bz_istore 2 1)) :: (25, .inl (bz_push (.int 0) 1)) :: (26, .inl (bz_istore 3 1)) :: (27, .inl (bz_iload 3 1)) :: (28, .inl (bz_aload 0 1)) ::
  (29, .inl (bz_getI 10 6)) :: (32, .inl (bz_ic_ge 73)) :: (35, .inl (bz_iload 2 1)) :: (36, .inl (bz_if_eq 73)) :: (39, .inl (bz_iload 1 1)) :: (40, .inl (bz_aload 0 1)) ::
  (41, .inl (bz_getR 10 4)) :: (44, .inl (bz_iload 3 1)) :: (45, .inl (bz_iald)) :: (46, .inr (.inl (mX11_behindSteps, 2, 0))) :: (49, .inl (bz_push (.int 10) 2)) :: (51, .inl (bz_idiv)) ::
  (52, .inl (bz_aload 0 1)) :: (53, .inl (bz_getR 10 5)) :: (56, .inl (bz_iload 3 1)) :: (57, .inl (bz_iald)) :: (58, .inl (bz_ic_ne 65)) :: (61, .inl (bz_push (.int 1) 1)) ::
  (62, .inl (bz_goto 66)) :: (65, .inl (bz_push (.int 0) 1)) :: (66, .inl (bz_istore 2 1)) :: (67, .inl (bz_iinc 3 1)) :: (70, .inl (bz_goto 27)) :: (73, .inl (bz_iload 2 1)) ::
  (74, .inr (.inr 3)) :: []
def bm_X11_isFit : bz_M := (RX11, yX11_isFit, cX11_isFit, 4, (some .boolean), 4, 93, bt_X11_isFit)
def bt_X11_findFits : List bz_E := (0, .inl (bz_aload 0 1)) :: (1, .inl (bz_push (.int 0) 1)) :: (2, .inl (bz_putI 10 34)) :: (5, .inl (bz_push (.int 0) 1)) :: (6, .inl (bz_istore 1 1)) :: (7, .inl (bz_iload 1 1)) ::
  (8, .inl (bz_push (.int 450) 3)) :: (11, .inl (bz_ic_ge 58)) :: (14, .inl (bz_aload 0 1)) :: (15, .inl (bz_iload 1 1)) :: (16, .inr (.inl (mX11_isFit, 2, 11))) :: (19, .inl (bz_if_eq 52)) ::
  (22, .inl (bz_aload 0 1)) :: (23, .inl (bz_getR 10 32)) :: (26, .inl (bz_aload 0 1)) :: (27, .inl (bz_getI 10 34)) :: (30, .inl (bz_iload 1 1)) :: (31, .inl (bz_iast)) ::
  (32, .inl (bz_aload 0 1)) :: (33, .inl (bz_getR 10 33)) :: (36, .inl (bz_aload 0 1)) :: (37, .inl (bz_getI 10 34)) :: (40, .inl (bz_iload 1 1)) :: (41, .inl (bz_iast)) ::
  (42, .inl (bz_aload 0 1)) :: (43, .inl (bz_dup)) :: (44, .inl (bz_getI 10 34)) :: (47, .inl (bz_push (.int 1) 1)) :: (48, .inl (bz_iadd)) :: (49, .inl (bz_putI 10 34)) ::
  (52, .inl (bz_iinc 1 1)) :: (55, .inl (bz_goto 7)) :: (58, .inr (.inr 0)) :: []
def bm_X11_findFits : bz_M := (RX11, yX11_findFits, cX11_findFits, 2, none, 5, 116, bt_X11_findFits)
def bt_X11_sent : List bz_E := (0, .inl (bz_aload 0 1)) :: (1, .inr (.inl (mX11_findFits, 1, 11))) :: (4, .inl (bz_iload 1 1)) :: (5, .inl (bz_push (.int (-1)) 1)) :: (6, .inl (bz_ic_ne 16)) :: (9, .inl (bz_aload 0 1)) ::
  (10, .inl (bz_getI 10 34)) :: (13, .inl (bz_goto 43)) :: (16, .inl (bz_iload 1 1)) :: (17, .inl (bz_i2l)) :: (18, .inl (bz_push (.long 0) 1)) :: (19, .inl (bz_aload 0 1)) ::
  (20, .inl (bz_getI 10 34)) :: (23, .inl (bz_push (.int 1) 1)) :: (24, .inl (bz_isub)) :: (25, .inl (bz_i2l)) :: (26, .inr (.inl (mX11_in, 3, 0))) :: (29, .inl (bz_if_eq 41)) ::
  (32, .inl (bz_aload 0 1)) :: (33, .inl (bz_getR 10 32)) :: (36, .inl (bz_iload 1 1)) :: (37, .inl (bz_iald)) :: (38, .inl (bz_goto 43)) :: (41, .inl (bz_push (.int (-6)) 2)) ::
  (43, .inr (.inr 1)) :: []
def bm_X11_sent : bz_M := (RX11, yX11_sent, cX11_sent, 2, (some .int), 6, 137, bt_X11_sent)
def bt_X11_mostNow : List bz_E := (0, .inl (bz_push (.int 0) 1)) :: (1, .inl (bz_istore 1 1)) :: (2, .inl (bz_push (.int 0) 1)) :: (3, .inl (bz_istore 2 1)) :: (4, .inl (bz_iload 2 1)) :: (5, .inl (bz_push (.int 45) 2)) ::
  (7, .inl (bz_ic_ge 23)) :: (10, .inl (bz_aload 0 1)) :: (11, .inl (bz_getR 10 35)) :: (14, .inl (bz_iload 2 1)) :: (15, .inl (bz_push (.int 0) 1)) :: (16, .inl (bz_iast)) ::
  (17, .inl (bz_iinc 2 1)) :: (20, .inl (bz_goto 4)) :: (23, .inl (bz_push (.int 0) 1)) :: (24, .inl (bz_istore 2 1)) :: (25, .inl (bz_iload 2 1)) :: (26, .inl (bz_aload 0 1)) ::
  (27, .inl (bz_getI 10 34)) :: (30, .inl (bz_ic_ge 95)) :: (33, .inl (bz_aload 0 1)) :: (34, .inl (bz_getR 10 33)) :: (37, .inl (bz_iload 2 1)) :: (38, .inl (bz_iald)) ::
  (39, .inl (bz_push (.int 10) 2)) :: (41, .inl (bz_idiv)) :: (42, .inl (bz_istore 3 1)) :: (43, .inl (bz_aload 0 1)) :: (44, .inl (bz_getR 10 35)) :: (47, .inl (bz_iload 3 1)) ::
  (48, .inl (bz_dup2)) :: (49, .inl (bz_iald)) :: (50, .inl (bz_push (.int 1) 1)) :: (51, .inl (bz_iadd)) :: (52, .inl (bz_iast)) :: (53, .inl (bz_aload 0 1)) ::
  (54, .inl (bz_getR 10 35)) :: (57, .inl (bz_iload 3 1)) :: (58, .inl (bz_iald)) :: (59, .inl (bz_iload 1 1)) :: (60, .inl (bz_ic_le 72)) :: (63, .inl (bz_aload 0 1)) ::
  (64, .inl (bz_getR 10 35)) :: (67, .inl (bz_iload 3 1)) :: (68, .inl (bz_iald)) :: (69, .inl (bz_goto 73)) :: (72, .inl (bz_iload 1 1)) :: (73, .inl (bz_istore 1 1)) ::
  (74, .inl (bz_aload 0 1)) :: (75, .inl (bz_getR 10 33)) :: (78, .inl (bz_iload 2 1)) :: (79, .inl (bz_aload 0 1)) :: (80, .inl (bz_getR 10 33)) :: (83, .inl (bz_iload 2 1)) ::
  (84, .inl (bz_iald)) :: (85, .inr (.inl (mX11_next, 1, 0))) :: (88, .inl (bz_iast)) :: (89, .inl (bz_iinc 2 1)) :: (92, .inl (bz_goto 25)) :: (95, .inl (bz_iload 1 1)) ::
  (96, .inr (.inr 1)) :: []
def bm_X11_mostNow : bz_M := (RX11, yX11_mostNow, cX11_mostNow, 4, (some .int), 3, 70, bt_X11_mostNow)
def bt_X11_ask : List bz_E := (0, .inl (bz_iload 1 1)) :: (1, .inl (bz_i2l)) :: (2, .inl (bz_push (.long 0) 1)) :: (3, .inl (bz_push (.long 1) 1)) :: (4, .inr (.inl (mX11_in, 3, 0))) :: (7, .inl (bz_if_ne 13)) ::
  (10, .inl (bz_push (.int (-2)) 2)) :: (12, .inr (.inr 1)) :: (13, .inl (bz_aload 0 1)) :: (14, .inr (.inl (mX11_findFits, 1, 11))) :: (17, .inl (bz_push (.int (-6)) 2)) :: (19, .inl (bz_istore 2 1)) ::
  (20, .inl (bz_aload 0 1)) :: (21, .inl (bz_getI 10 34)) :: (24, .inl (bz_push (.int 1) 1)) :: (25, .inl (bz_iadd)) :: (26, .inl (bz_istore 3 1)) :: (27, .inl (bz_push (.int 0) 1)) ::
  (28, .inl (bz_istore 4 2)) :: (30, .inl (bz_iload 4 2)) :: (32, .inl (bz_push (.int 60) 2)) :: (34, .inl (bz_ic_gt 82)) :: (37, .inl (bz_aload 0 1)) :: (38, .inl (bz_getI 10 34)) ::
  (41, .inl (bz_if_le 82)) :: (44, .inl (bz_aload 0 1)) :: (45, .inr (.inl (mX11_mostNow, 1, 11))) :: (48, .inl (bz_istore 5 2)) :: (50, .inl (bz_iload 5 2)) :: (52, .inl (bz_iload 3 1)) ::
  (53, .inl (bz_ic_ge 61)) :: (56, .inl (bz_iload 4 2)) :: (58, .inl (bz_goto 62)) :: (61, .inl (bz_iload 2 1)) :: (62, .inl (bz_istore 2 1)) :: (63, .inl (bz_iload 5 2)) ::
  (65, .inl (bz_iload 3 1)) :: (66, .inl (bz_ic_ge 74)) :: (69, .inl (bz_iload 5 2)) :: (71, .inl (bz_goto 75)) :: (74, .inl (bz_iload 3 1)) :: (75, .inl (bz_istore 3 1)) ::
  (76, .inl (bz_iinc 4 1)) :: (79, .inl (bz_goto 30)) :: (82, .inl (bz_iload 2 1)) :: (83, .inl (bz_if_lt 90)) :: (86, .inl (bz_iload 1 1)) :: (87, .inl (bz_if_ne 94)) ::
  (90, .inl (bz_iload 2 1)) :: (91, .inl (bz_goto 95)) :: (94, .inl (bz_iload 3 1)) :: (95, .inr (.inr 1)) :: []
def bm_X11_ask : bz_M := (RX11, yX11_ask, cX11_ask, 6, (some .int), 6, 137, bt_X11_ask)
def bt_X11_digit : List bz_E := (0, .inl (bz_iload 1 1)) :: (1, .inl (bz_if_ne 11)) :: (4, .inl (bz_iload 0 1)) :: (5, .inl (bz_push (.int 100) 2)) :: (7, .inl (bz_idiv)) :: (8, .inl (bz_goto 30)) ::
  (11, .inl (bz_iload 1 1)) :: (12, .inl (bz_push (.int 1) 1)) :: (13, .inl (bz_ic_ne 26)) :: (16, .inl (bz_iload 0 1)) :: (17, .inl (bz_push (.int 10) 2)) :: (19, .inl (bz_idiv)) ::
  (20, .inl (bz_push (.int 10) 2)) :: (22, .inl (bz_irem)) :: (23, .inl (bz_goto 30)) :: (26, .inl (bz_iload 0 1)) :: (27, .inl (bz_push (.int 10) 2)) :: (29, .inl (bz_irem)) ::
  (30, .inr (.inr 1)) :: []
def bm_X11_digit : bz_M := (RX11, yX11_digit, cX11_digit, 2, (some .int), 0, 0, bt_X11_digit)
def bt_X11_tenTo : List bz_E := (0, .inl (bz_iload 0 1)) :: (1, .inl (bz_if_ne 9)) :: (4, .inl (bz_push (.int 100) 2)) :: (6, .inl (bz_goto 20)) :: (9, .inl (bz_iload 0 1)) :: (10, .inl (bz_push (.int 1) 1)) ::
  (11, .inl (bz_ic_ne 19)) :: (14, .inl (bz_push (.int 10) 2)) :: (16, .inl (bz_goto 20)) :: (19, .inl (bz_push (.int 1) 1)) :: (20, .inr (.inr 1)) :: []
def bm_X11_tenTo : bz_M := (RX11, yX11_tenTo, cX11_tenTo, 1, (some .int), 0, 0, bt_X11_tenTo)
def bt_X11_leastTake : List bz_E := (0, .inl (bz_iload 2 1)) :: (1, .inl (bz_push (.int 1) 1)) :: (2, .inl (bz_ic_ne 25)) :: (5, .inl (bz_iload 1 1)) :: (6, .inl (bz_if_le 25)) :: (9, .inl (bz_aload 0 1)) ::
  (10, .inl (bz_getR 10 36)) :: (13, .inl (bz_push (.int 2) 1)) :: (14, .inl (bz_iload 1 1)) :: (15, .inl (bz_imul)) :: (16, .inl (bz_zald)) :: (17, .inl (bz_if_ne 25)) ::
  (20, .inl (bz_push (.int 99) 2)) :: (22, .inl (bz_goto 27)) :: (25, .inl (bz_push (.int (-6)) 2)) :: (27, .inl (bz_istore 3 1)) :: (28, .inl (bz_push (.int 2) 1)) :: (29, .inl (bz_istore 4 2)) ::
  (31, .inl (bz_iload 4 2)) :: (33, .inl (bz_if_lt 100)) :: (36, .inl (bz_iload 1 1)) :: (37, .inl (bz_iload 4 2)) :: (39, .inr (.inl (mX11_digit, 2, 0))) :: (42, .inl (bz_istore 5 2)) ::
  (44, .inl (bz_iload 5 2)) :: (46, .inl (bz_if_le 94)) :: (49, .inl (bz_iload 1 1)) :: (50, .inl (bz_iload 5 2)) :: (52, .inl (bz_iload 4 2)) :: (54, .inr (.inl (mX11_tenTo, 1, 0))) ::
  (57, .inl (bz_imul)) :: (58, .inl (bz_isub)) :: (59, .inl (bz_istore 6 2)) :: (61, .inl (bz_aload 0 1)) :: (62, .inl (bz_getR 10 36)) :: (65, .inl (bz_push (.int 2) 1)) ::
  (66, .inl (bz_iload 6 2)) :: (68, .inl (bz_imul)) :: (69, .inl (bz_iload 2 1)) :: (70, .inl (bz_iadd)) :: (71, .inl (bz_zald)) :: (72, .inl (bz_if_eq 79)) ::
  (75, .inl (bz_iload 3 1)) :: (76, .inl (bz_goto 87)) :: (79, .inl (bz_push (.int 10) 2)) :: (81, .inl (bz_iload 4 2)) :: (83, .inl (bz_imul)) :: (84, .inl (bz_iload 5 2)) ::
  (86, .inl (bz_iadd)) :: (87, .inl (bz_istore 3 1)) :: (88, .inl (bz_iinc 5 (-1))) :: (91, .inl (bz_goto 44)) :: (94, .inl (bz_iinc 4 (-1))) :: (97, .inl (bz_goto 31)) ::
  (100, .inl (bz_iload 3 1)) :: (101, .inr (.inr 1)) :: []
def bm_X11_leastTake : bz_M := (RX11, yX11_leastTake, cX11_leastTake, 7, (some .int), 1, 21, bt_X11_leastTake)
def bt_X11_chalk : List bz_E := (0, .inl (bz_iload 1 1)) :: (1, .inl (bz_i2l)) :: (2, .inl (bz_push (.long 0) 1)) :: (3, .inl (bz_push (.long 999) 3)) :: (6, .inr (.inl (mX11_in, 3, 0))) :: (9, .inl (bz_if_eq 32)) ::
  (12, .inl (bz_iload 2 1)) :: (13, .inl (bz_i2l)) :: (14, .inl (bz_push (.long 0) 1)) :: (15, .inl (bz_push (.long 1) 1)) :: (16, .inr (.inl (mX11_in, 3, 0))) :: (19, .inl (bz_if_eq 32)) ::
  (22, .inl (bz_iload 3 1)) :: (23, .inl (bz_i2l)) :: (24, .inl (bz_push (.long 0) 1)) :: (25, .inl (bz_push (.long 1) 1)) :: (26, .inr (.inl (mX11_in, 3, 0))) :: (29, .inl (bz_if_ne 35)) ::
  (32, .inl (bz_push (.int (-2)) 2)) :: (34, .inr (.inr 1)) :: (35, .inl (bz_push (.int 0) 1)) :: (36, .inl (bz_istore 4 2)) :: (38, .inl (bz_iload 4 2)) :: (40, .inl (bz_iload 1 1)) ::
  (41, .inl (bz_ic_gt 100)) :: (44, .inl (bz_aload 0 1)) :: (45, .inl (bz_getR 10 36)) :: (48, .inl (bz_push (.int 2) 1)) :: (49, .inl (bz_iload 4 2)) :: (51, .inl (bz_imul)) ::
  (52, .inl (bz_aload 0 1)) :: (53, .inl (bz_iload 4 2)) :: (55, .inl (bz_push (.int 0) 1)) :: (56, .inr (.inl (mX11_leastTake, 3, 11))) :: (59, .inl (bz_if_lt 66)) :: (62, .inl (bz_push (.int 1) 1)) ::
  (63, .inl (bz_goto 67)) :: (66, .inl (bz_push (.int 0) 1)) :: (67, .inl (bz_zast)) :: (68, .inl (bz_aload 0 1)) :: (69, .inl (bz_getR 10 36)) :: (72, .inl (bz_push (.int 2) 1)) ::
  (73, .inl (bz_iload 4 2)) :: (75, .inl (bz_imul)) :: (76, .inl (bz_push (.int 1) 1)) :: (77, .inl (bz_iadd)) :: (78, .inl (bz_aload 0 1)) :: (79, .inl (bz_iload 4 2)) ::
  (81, .inl (bz_push (.int 1) 1)) :: (82, .inr (.inl (mX11_leastTake, 3, 11))) :: (85, .inl (bz_if_lt 92)) :: (88, .inl (bz_push (.int 1) 1)) :: (89, .inl (bz_goto 93)) :: (92, .inl (bz_push (.int 0) 1)) ::
  (93, .inl (bz_zast)) :: (94, .inl (bz_iinc 4 1)) :: (97, .inl (bz_goto 38)) :: (100, .inl (bz_aload 0 1)) :: (101, .inl (bz_iload 1 1)) :: (102, .inl (bz_iload 2 1)) ::
  (103, .inr (.inl (mX11_leastTake, 3, 11))) :: (106, .inl (bz_istore 4 2)) :: (108, .inl (bz_iload 3 1)) :: (109, .inl (bz_push (.int 1) 1)) :: (110, .inl (bz_ic_ne 118)) :: (113, .inl (bz_iload 4 2)) ::
  (115, .inl (bz_goto 128)) :: (118, .inl (bz_iload 4 2)) :: (120, .inl (bz_if_ge 127)) :: (123, .inl (bz_push (.int 0) 1)) :: (124, .inl (bz_goto 128)) :: (127, .inl (bz_push (.int 1) 1)) ::
  (128, .inr (.inr 1)) :: []
def bm_X11_chalk : bz_M := (RX11, yX11_chalk, cX11_chalk, 5, (some .int), 2, 47, bt_X11_chalk)
def bt_X11_lowest : List bz_E := (0, .inl (bz_lload 2 1)) :: (1, .inl (bz_lstore 5 2)) :: (3, .inl (bz_lload 0 1)) :: (4, .inl (bz_lstore 7 2)) :: (6, .inl (bz_lload 7 2)) :: (8, .inl (bz_push (.long 0) 1)) ::
  (9, .inl (bz_lcmp)) :: (10, .inl (bz_if_eq 31)) :: (13, .inl (bz_lload 5 2)) :: (15, .inl (bz_lload 7 2)) :: (17, .inl (bz_lrem)) :: (18, .inl (bz_lstore 9 2)) ::
  (20, .inl (bz_lload 7 2)) :: (22, .inl (bz_lstore 5 2)) :: (24, .inl (bz_lload 9 2)) :: (26, .inl (bz_lstore 7 2)) :: (28, .inl (bz_goto 6)) :: (31, .inl (bz_iload 4 2)) ::
  (33, .inl (bz_if_ne 43)) :: (36, .inl (bz_lload 0 1)) :: (37, .inl (bz_lload 5 2)) :: (39, .inl (bz_ldiv)) :: (40, .inl (bz_goto 47)) :: (43, .inl (bz_lload 2 1)) ::
  (44, .inl (bz_lload 5 2)) :: (46, .inl (bz_ldiv)) :: (47, .inr (.inr 2)) :: []
def bm_X11_lowest : bz_M := (RX11, yX11_lowest, cX11_lowest, 11, (some .long), 0, 0, bt_X11_lowest)
def bt_X11_power : List bz_E := (0, .inl (bz_push (.long 1) 1)) :: (1, .inl (bz_lstore 3 1)) :: (2, .inl (bz_push (.int 0) 1)) :: (3, .inl (bz_istore 5 2)) :: (5, .inl (bz_iload 5 2)) :: (7, .inl (bz_iload 2 1)) ::
  (8, .inl (bz_ic_ge 21)) :: (11, .inl (bz_lload 3 1)) :: (12, .inl (bz_lload 0 1)) :: (13, .inl (bz_lmul)) :: (14, .inl (bz_lstore 3 1)) :: (15, .inl (bz_iinc 5 1)) ::
  (18, .inl (bz_goto 5)) :: (21, .inl (bz_lload 3 1)) :: (22, .inr (.inr 2)) :: []
def bm_X11_power : bz_M := (RX11, yX11_power, cX11_power, 6, (some .long), 0, 0, bt_X11_power)
def bt_X11_findChance : List bz_E := (0, .inl (bz_push (.int 0) 1)) :: (1, .inl (bz_istore 5 2)) :: (3, .inl (bz_iload 5 2)) :: (5, .inl (bz_push (.int 81) 2)) :: (7, .inl (bz_ic_ge 40)) :: (10, .inl (bz_aload 0 1)) ::
  (11, .inl (bz_getR 10 37)) :: (14, .inl (bz_iload 5 2)) :: (16, .inl (bz_iload 5 2)) :: (18, .inl (bz_push (.int 9) 2)) :: (20, .inl (bz_iload 3 1)) :: (21, .inl (bz_imul)) ::
  (22, .inl (bz_iload 4 2)) :: (24, .inl (bz_iadd)) :: (25, .inl (bz_ic_ne 32)) :: (28, .inl (bz_push (.long 1) 1)) :: (29, .inl (bz_goto 33)) :: (32, .inl (bz_push (.long 0) 1)) ::
  (33, .inl (bz_last)) :: (34, .inl (bz_iinc 5 1)) :: (37, .inl (bz_goto 3)) :: (40, .inl (bz_iload 3 1)) :: (41, .inl (bz_istore 5 2)) :: (43, .inl (bz_iload 5 2)) ::
  (45, .inl (bz_iload 1 1)) :: (46, .inl (bz_ic_ge 143)) :: (49, .inl (bz_iload 4 2)) :: (51, .inl (bz_istore 6 2)) :: (53, .inl (bz_iload 6 2)) :: (55, .inl (bz_iload 1 1)) ::
  (56, .inl (bz_ic_ge 137)) :: (59, .inl (bz_aload 0 1)) :: (60, .inl (bz_getR 10 37)) :: (63, .inl (bz_push (.int 9) 2)) :: (65, .inl (bz_iload 5 2)) :: (67, .inl (bz_push (.int 1) 1)) ::
  (68, .inl (bz_iadd)) :: (69, .inl (bz_imul)) :: (70, .inl (bz_iload 6 2)) :: (72, .inl (bz_iadd)) :: (73, .inl (bz_dup2)) :: (74, .inl (bz_lald)) ::
  (75, .inl (bz_iload 2 1)) :: (76, .inl (bz_i2l)) :: (77, .inl (bz_aload 0 1)) :: (78, .inl (bz_getR 10 37)) :: (81, .inl (bz_push (.int 9) 2)) :: (83, .inl (bz_iload 5 2)) ::
  (85, .inl (bz_imul)) :: (86, .inl (bz_iload 6 2)) :: (88, .inl (bz_iadd)) :: (89, .inl (bz_lald)) :: (90, .inl (bz_lmul)) :: (91, .inl (bz_ladd)) ::
  (92, .inl (bz_last)) :: (93, .inl (bz_aload 0 1)) :: (94, .inl (bz_getR 10 37)) :: (97, .inl (bz_push (.int 9) 2)) :: (99, .inl (bz_iload 5 2)) :: (101, .inl (bz_imul)) ::
  (102, .inl (bz_iload 6 2)) :: (104, .inl (bz_iadd)) :: (105, .inl (bz_push (.int 1) 1)) :: (106, .inl (bz_iadd)) :: (107, .inl (bz_dup2)) :: (108, .inl (bz_lald)) ::
  (109, .inl (bz_push (.long 10) 3)) :: (112, .inl (bz_iload 2 1)) :: (113, .inl (bz_i2l)) :: (114, .inl (bz_lsub)) :: (115, .inl (bz_aload 0 1)) :: (116, .inl (bz_getR 10 37)) ::
  (119, .inl (bz_push (.int 9) 2)) :: (121, .inl (bz_iload 5 2)) :: (123, .inl (bz_imul)) :: (124, .inl (bz_iload 6 2)) :: (126, .inl (bz_iadd)) :: (127, .inl (bz_lald)) ::
  (128, .inl (bz_lmul)) :: (129, .inl (bz_ladd)) :: (130, .inl (bz_last)) :: (131, .inl (bz_iinc 6 1)) :: (134, .inl (bz_goto 53)) :: (137, .inl (bz_iinc 5 1)) ::
  (140, .inl (bz_goto 43)) :: (143, .inr (.inr 0)) :: []
def bm_X11_findChance : bz_M := (RX11, yX11_findChance, cX11_findChance, 7, none, 0, 0, bt_X11_findChance)
set_option maxRecDepth 100000 in
def bt_X11_match : List bz_E := (0, .inl (bz_iload 1 1)) :: (1, .inl (bz_i2l)) :: (2, .inl (bz_push (.long 1) 1)) :: (3, .inl (bz_push (.long 8) 3)) :: (6, .inr (.inl (mX11_in, 3, 0))) :: (9, .inl (bz_if_eq 73)) ::
  (12, .inl (bz_iload 2 1)) :: (13, .inl (bz_i2l)) :: (14, .inl (bz_push (.long 0) 1)) :: (15, .inl (bz_push (.long 10) 3)) :: (18, .inr (.inl (mX11_in, 3, 0))) :: (21, .inl (bz_if_eq 73)) ::
  (24, .inl (bz_iload 3 1)) :: (25, .inl (bz_i2l)) :: (26, .inl (bz_push (.long 0) 1)) :: (27, .inl (bz_iload 1 1)) :: (28, .inl (bz_push (.int 1) 1)) :: (29, .inl (bz_isub)) ::
  (30, .inl (bz_i2l)) :: (31, .inr (.inl (mX11_in, 3, 0))) :: (34, .inl (bz_if_eq 73)) :: (37, .inl (bz_iload 4 2)) :: (39, .inl (bz_i2l)) :: (40, .inl (bz_push (.long 0) 1)) ::
  (41, .inl (bz_iload 1 1)) :: (42, .inl (bz_push (.int 1) 1)) :: (43, .inl (bz_isub)) :: (44, .inl (bz_i2l)) :: (45, .inr (.inl (mX11_in, 3, 0))) :: (48, .inl (bz_if_eq 73)) ::
  (51, .inl (bz_iload 5 2)) :: (53, .inl (bz_i2l)) :: (54, .inl (bz_push (.long 0) 1)) :: (55, .inl (bz_push (.long 1) 1)) :: (56, .inr (.inl (mX11_in, 3, 0))) :: (59, .inl (bz_if_eq 73)) ::
  (62, .inl (bz_iload 6 2)) :: (64, .inl (bz_i2l)) :: (65, .inl (bz_push (.long 0) 1)) :: (66, .inl (bz_push (.long 1) 1)) :: (67, .inr (.inl (mX11_in, 3, 0))) :: (70, .inl (bz_if_ne 77)) ::
  (73, .inl (bz_push (.long (-1000000000000000002)) 3)) :: (76, .inr (.inr 2)) :: (77, .inl (bz_aload 0 1)) :: (78, .inl (bz_iload 1 1)) :: (79, .inl (bz_iload 2 1)) :: (80, .inl (bz_iload 3 1)) ::
  (81, .inl (bz_iload 4 2)) :: (83, .inr (.inl (mX11_findChance, 5, 11))) :: (86, .inl (bz_iload 1 1)) :: (87, .inl (bz_iload 3 1)) :: (88, .inl (bz_isub)) :: (89, .inl (bz_iload 1 1)) ::
  (90, .inl (bz_iadd)) :: (91, .inl (bz_iload 4 2)) :: (93, .inl (bz_isub)) :: (94, .inl (bz_push (.int 1) 1)) :: (95, .inl (bz_isub)) :: (96, .inl (bz_istore 7 2)) ::
  (98, .inl (bz_push (.long 0) 1)) :: (99, .inl (bz_lstore 8 2)) :: (101, .inl (bz_push (.long 0) 1)) :: (102, .inl (bz_lstore 10 2)) :: (104, .inl (bz_iload 4 2)) :: (106, .inl (bz_istore 12 2)) ::
  (108, .inl (bz_iload 12 2)) :: (110, .inl (bz_iload 1 1)) :: (111, .inl (bz_ic_ge 193)) :: (114, .inl (bz_iload 1 1)) :: (115, .inl (bz_iload 3 1)) :: (116, .inl (bz_isub)) ::
  (117, .inl (bz_iload 12 2)) :: (119, .inl (bz_iadd)) :: (120, .inl (bz_iload 4 2)) :: (122, .inl (bz_isub)) :: (123, .inl (bz_istore 13 2)) :: (125, .inl (bz_lload 8 2)) ::
  (127, .inl (bz_aload 0 1)) :: (128, .inl (bz_getR 10 37)) :: (131, .inl (bz_push (.int 9) 2)) :: (133, .inl (bz_iload 1 1)) :: (134, .inl (bz_imul)) :: (135, .inl (bz_iload 12 2)) ::
  (137, .inl (bz_iadd)) :: (138, .inl (bz_lald)) :: (139, .inl (bz_push (.long 10) 3)) :: (142, .inl (bz_iload 7 2)) :: (144, .inl (bz_iload 13 2)) :: (146, .inl (bz_isub)) ::
  (147, .inr (.inl (mX11_power, 2, 0))) :: (150, .inl (bz_lmul)) :: (151, .inl (bz_ladd)) :: (152, .inl (bz_lstore 8 2)) :: (154, .inl (bz_lload 10 2)) :: (156, .inl (bz_iload 13 2)) ::
  (158, .inl (bz_i2l)) :: (159, .inl (bz_aload 0 1)) :: (160, .inl (bz_getR 10 37)) :: (163, .inl (bz_push (.int 9) 2)) :: (165, .inl (bz_iload 1 1)) :: (166, .inl (bz_imul)) ::
  (167, .inl (bz_iload 12 2)) :: (169, .inl (bz_iadd)) :: (170, .inl (bz_lald)) :: (171, .inl (bz_lmul)) :: (172, .inl (bz_push (.long 10) 3)) :: (175, .inl (bz_iload 7 2)) ::
  (177, .inl (bz_iload 13 2)) :: (179, .inl (bz_isub)) :: (180, .inr (.inl (mX11_power, 2, 0))) :: (183, .inl (bz_lmul)) :: (184, .inl (bz_ladd)) :: (185, .inl (bz_lstore 10 2)) ::
  (187, .inl (bz_iinc 12 1)) :: (190, .inl (bz_goto 108)) :: (193, .inl (bz_iload 3 1)) :: (194, .inl (bz_istore 12 2)) :: (196, .inl (bz_iload 12 2)) :: (198, .inl (bz_iload 1 1)) ::
  (199, .inl (bz_ic_ge 252)) :: (202, .inl (bz_iload 12 2)) :: (204, .inl (bz_iload 3 1)) :: (205, .inl (bz_isub)) :: (206, .inl (bz_iload 1 1)) :: (207, .inl (bz_iadd)) ::
  (208, .inl (bz_iload 4 2)) :: (210, .inl (bz_isub)) :: (211, .inl (bz_istore 13 2)) :: (213, .inl (bz_lload 10 2)) :: (215, .inl (bz_iload 13 2)) :: (217, .inl (bz_i2l)) ::
  (218, .inl (bz_aload 0 1)) :: (219, .inl (bz_getR 10 37)) :: (222, .inl (bz_push (.int 9) 2)) :: (224, .inl (bz_iload 12 2)) :: (226, .inl (bz_imul)) :: (227, .inl (bz_iload 1 1)) ::
  (228, .inl (bz_iadd)) :: (229, .inl (bz_lald)) :: (230, .inl (bz_lmul)) :: (231, .inl (bz_push (.long 10) 3)) :: (234, .inl (bz_iload 7 2)) :: (236, .inl (bz_iload 13 2)) ::
  (238, .inl (bz_isub)) :: (239, .inr (.inl (mX11_power, 2, 0))) :: (242, .inl (bz_lmul)) :: (243, .inl (bz_ladd)) :: (244, .inl (bz_lstore 10 2)) :: (246, .inl (bz_iinc 12 1)) ::
  (249, .inl (bz_goto 196)) :: (252, .inl (bz_iload 5 2)) :: (254, .inl (bz_if_ne 262)) :: (257, .inl (bz_lload 8 2)) :: (259, .inl (bz_goto 264)) :: (262, .inl (bz_lload 10 2)) ::
  (264, .inl (bz_push (.long 10) 3)) :: (267, .inl (bz_iload 7 2)) :: (269, .inr (.inl (mX11_power, 2, 0))) :: (272, .inl (bz_iload 6 2)) :: (274, .inr (.inl (mX11_lowest, 3, 0))) :: (277, .inr (.inr 2)) :: []
def bm_X11_match : bz_M := (RX11, yX11_match, cX11_match, 14, (some .long), 1, 30, bt_X11_match)
def bt_X11_actBy : List bz_E := (0, .inl (bz_iload 0 1)) :: (1, .inl (bz_push (.int 5) 1)) :: (2, .inl (bz_ic_ge 9)) :: (5, .inl (bz_push (.int 0) 1)) :: (6, .inl (bz_goto 29)) :: (9, .inl (bz_iload 0 1)) ::
  (10, .inl (bz_push (.int 5) 1)) :: (11, .inl (bz_ic_ne 18)) :: (14, .inl (bz_push (.int 1) 1)) :: (15, .inl (bz_goto 29)) :: (18, .inl (bz_iload 0 1)) :: (19, .inl (bz_push (.int 6) 2)) ::
  (21, .inl (bz_ic_ne 28)) :: (24, .inl (bz_push (.int 2) 1)) :: (25, .inl (bz_goto 29)) :: (28, .inl (bz_push (.int 3) 1)) :: (29, .inr (.inr 1)) :: []
def bm_X11_actBy : bz_M := (RX11, yX11_actBy, cX11_actBy, 1, (some .int), 0, 0, bt_X11_actBy)
def bt_X11_season : List bz_E := (0, .inl (bz_iload 1 1)) :: (1, .inl (bz_i2l)) :: (2, .inl (bz_push (.long 0) 1)) :: (3, .inl (bz_push (.long 9999) 3)) :: (6, .inr (.inl (mX11_in, 3, 0))) :: (9, .inl (bz_if_eq 36)) ::
  (12, .inl (bz_iload 2 1)) :: (13, .inl (bz_i2l)) :: (14, .inl (bz_push (.long 1) 1)) :: (15, .inl (bz_push (.long 99) 3)) :: (18, .inr (.inl (mX11_in, 3, 0))) :: (21, .inl (bz_if_eq 36)) ::
  (24, .inl (bz_iload 3 1)) :: (25, .inl (bz_i2l)) :: (26, .inl (bz_push (.long 0) 1)) :: (27, .inl (bz_push (.long 2) 3)) :: (30, .inr (.inl (mX11_in, 3, 0))) :: (33, .inl (bz_if_ne 39)) ::
  (36, .inl (bz_push (.int (-2)) 2)) :: (38, .inr (.inr 1)) :: (39, .inl (bz_aload 0 1)) :: (40, .inr (.inl (mX11_keepNow, 1, 11))) :: (43, .inl (bz_iload 1 1)) :: (44, .inl (bz_istore 4 2)) ::
  (46, .inl (bz_push (.int 0) 1)) :: (47, .inl (bz_istore 5 2)) :: (49, .inl (bz_iload 5 2)) :: (51, .inl (bz_iload 2 1)) :: (52, .inl (bz_ic_ge 136)) :: (55, .inl (bz_push (.long 75) 3)) ::
  (58, .inl (bz_iload 4 2)) :: (60, .inl (bz_i2l)) :: (61, .inl (bz_lmul)) :: (62, .inl (bz_push (.long 74) 3)) :: (65, .inl (bz_ladd)) :: (66, .inl (bz_push (.long 65537) 3)) ::
  (69, .inl (bz_lrem)) :: (70, .inl (bz_l2i)) :: (71, .inl (bz_istore 4 2)) :: (73, .inl (bz_iload 4 2)) :: (75, .inl (bz_push (.int 3) 1)) :: (76, .inl (bz_idiv)) ::
  (77, .inl (bz_push (.int 8) 2)) :: (79, .inl (bz_irem)) :: (80, .inr (.inl (mX11_actBy, 1, 0))) :: (83, .inl (bz_istore 6 2)) :: (85, .inl (bz_iload 4 2)) :: (87, .inl (bz_push (.int 24) 2)) ::
  (89, .inl (bz_idiv)) :: (90, .inl (bz_istore 7 2)) :: (92, .inl (bz_aload 0 1)) :: (93, .inl (bz_iload 6 2)) :: (95, .inl (bz_iload 4 2)) :: (97, .inl (bz_push (.int 3) 1)) ::
  (98, .inl (bz_irem)) :: (99, .inr (.inl (mX11_whyNot, 3, 11))) :: (102, .inl (bz_if_ne 130)) :: (105, .inl (bz_aload 0 1)) :: (106, .inl (bz_iload 6 2)) :: (108, .inl (bz_iload 4 2)) ::
  (110, .inl (bz_push (.int 3) 1)) :: (111, .inl (bz_irem)) :: (112, .inl (bz_iload 7 2)) :: (114, .inl (bz_push (.int 8) 2)) :: (116, .inl (bz_irem)) :: (117, .inl (bz_push (.int 1) 1)) ::
  (118, .inl (bz_iload 7 2)) :: (120, .inl (bz_push (.int 8) 2)) :: (122, .inl (bz_idiv)) :: (123, .inl (bz_push (.int 9) 2)) :: (125, .inl (bz_irem)) :: (126, .inl (bz_iadd)) ::
  (127, .inr (.inl (mX11_happen, 5, 11))) :: (130, .inl (bz_iinc 5 1)) :: (133, .inl (bz_goto 49)) :: (136, .inl (bz_aload 0 1)) :: (137, .inl (bz_iload 3 1)) :: (138, .inl (bz_if_ne 148)) ::
  (141, .inl (bz_aload 0 1)) :: (142, .inl (bz_getI 10 1)) :: (145, .inl (bz_goto 164)) :: (148, .inl (bz_iload 3 1)) :: (149, .inl (bz_push (.int 1) 1)) :: (150, .inl (bz_ic_ne 160)) ::
  (153, .inl (bz_aload 0 1)) :: (154, .inl (bz_getI 10 2)) :: (157, .inl (bz_goto 164)) :: (160, .inl (bz_aload 0 1)) :: (161, .inr (.inl (mX11_downMany, 1, 11))) :: (164, .inr (.inl (mX11_back, 2, 11))) ::
  (167, .inr (.inr 1)) :: []
def bm_X11_season : bz_M := (RX11, yX11_season, cX11_season, 8, (some .int), 6, 143, bt_X11_season)
def bt_X11_pass : List bz_E := (0, .inl (bz_aload 0 1)) :: (1, .inl (bz_getI 10 41)) :: (4, .inl (bz_if_eq 11)) :: (7, .inl (bz_iload 1 1)) :: (8, .inl (bz_goto 20)) :: (11, .inl (bz_aload 0 1)) ::
  (12, .inl (bz_getR 10 38)) :: (15, .inl (bz_aload 0 1)) :: (16, .inl (bz_getI 10 40)) :: (19, .inl (bz_iald)) :: (20, .inl (bz_istore 2 1)) :: (21, .inl (bz_aload 0 1)) ::
  (22, .inl (bz_getR 10 38)) :: (25, .inl (bz_aload 0 1)) :: (26, .inl (bz_getI 10 40)) :: (29, .inl (bz_iload 2 1)) :: (30, .inl (bz_iast)) :: (31, .inl (bz_aload 0 1)) ::
  (32, .inl (bz_dup)) :: (33, .inl (bz_getI 10 40)) :: (36, .inl (bz_push (.int 1) 1)) :: (37, .inl (bz_iadd)) :: (38, .inl (bz_putI 10 40)) :: (41, .inl (bz_iload 2 1)) ::
  (42, .inr (.inr 1)) :: []
def bm_X11_pass : bz_M := (RX11, yX11_pass, cX11_pass, 3, (some .int), 0, 0, bt_X11_pass)
def bt_X11_passRow : List bz_E := (0, .inl (bz_push (.int 0) 1)) :: (1, .inl (bz_istore 3 1)) :: (2, .inl (bz_iload 3 1)) :: (3, .inl (bz_iload 2 1)) :: (4, .inl (bz_ic_ge 23)) :: (7, .inl (bz_aload 1 1)) ::
  (8, .inl (bz_iload 3 1)) :: (9, .inl (bz_aload 0 1)) :: (10, .inl (bz_aload 1 1)) :: (11, .inl (bz_iload 3 1)) :: (12, .inl (bz_iald)) :: (13, .inr (.inl (mX11_pass, 2, 11))) ::
  (16, .inl (bz_iast)) :: (17, .inl (bz_iinc 3 1)) :: (20, .inl (bz_goto 2)) :: (23, .inr (.inr 0)) :: []
def bm_X11_passRow : bz_M := (RX11, yX11_passRow, cX11_passRow, 4, none, 1, 22, bt_X11_passRow)
def bt_X11_passAll : List bz_E := (0, .inl (bz_aload 0 1)) :: (1, .inl (bz_aload 0 1)) :: (2, .inl (bz_aload 0 1)) :: (3, .inl (bz_getI 10 1)) :: (6, .inr (.inl (mX11_pass, 2, 11))) :: (9, .inl (bz_putI 10 1)) ::
  (12, .inl (bz_aload 0 1)) :: (13, .inl (bz_aload 0 1)) :: (14, .inl (bz_aload 0 1)) :: (15, .inl (bz_getI 10 2)) :: (18, .inr (.inl (mX11_pass, 2, 11))) :: (21, .inl (bz_putI 10 2)) ::
  (24, .inl (bz_aload 0 1)) :: (25, .inl (bz_aload 0 1)) :: (26, .inl (bz_aload 0 1)) :: (27, .inl (bz_getI 10 3)) :: (30, .inr (.inl (mX11_pass, 2, 11))) :: (33, .inl (bz_putI 10 3)) ::
  (36, .inl (bz_aload 0 1)) :: (37, .inl (bz_aload 0 1)) :: (38, .inl (bz_aload 0 1)) :: (39, .inl (bz_getI 10 6)) :: (42, .inr (.inl (mX11_pass, 2, 11))) :: (45, .inl (bz_putI 10 6)) ::
  (48, .inl (bz_aload 0 1)) :: (49, .inl (bz_aload 0 1)) :: (50, .inl (bz_getR 10 0)) :: (53, .inl (bz_push (.int 3) 1)) :: (54, .inr (.inl (mX11_passRow, 3, 11))) :: (57, .inl (bz_aload 0 1)) ::
  (58, .inl (bz_aload 0 1)) :: (59, .inl (bz_getR 10 4)) :: (62, .inl (bz_push (.int 8) 2)) :: (64, .inr (.inl (mX11_passRow, 3, 11))) :: (67, .inl (bz_aload 0 1)) :: (68, .inl (bz_aload 0 1)) ::
  (69, .inl (bz_getR 10 5)) :: (72, .inl (bz_push (.int 8) 2)) :: (74, .inr (.inl (mX11_passRow, 3, 11))) :: (77, .inr (.inr 0)) :: []
def bm_X11_passAll : bz_M := (RX11, yX11_passAll, cX11_passAll, 1, none, 2, 45, bt_X11_passAll)
def bt_X11_image : List bz_E := (0, .inl (bz_iload 1 1)) :: (1, .inl (bz_i2l)) :: (2, .inl (bz_push (.long 0) 1)) :: (3, .inl (bz_push (.long 1) 1)) :: (4, .inr (.inl (mX11_in, 3, 0))) :: (7, .inl (bz_if_ne 13)) ::
  (10, .inl (bz_push (.int (-2)) 2)) :: (12, .inr (.inr 1)) :: (13, .inl (bz_aload 0 1)) :: (14, .inl (bz_push (.int 30) 2)) :: (16, .inl (bz_iload 1 1)) :: (17, .inl (bz_imul)) ::
  (18, .inl (bz_putI 10 40)) :: (21, .inl (bz_aload 0 1)) :: (22, .inl (bz_push (.int 1) 1)) :: (23, .inl (bz_putZ 10 41)) :: (26, .inl (bz_aload 0 1)) :: (27, .inr (.inl (mX11_passAll, 1, 11))) ::
  (30, .inl (bz_aload 0 1)) :: (31, .inl (bz_getR 10 39)) :: (34, .inl (bz_iload 1 1)) :: (35, .inl (bz_push (.int 1) 1)) :: (36, .inl (bz_zast)) :: (37, .inl (bz_push (.int 1) 1)) ::
  (38, .inr (.inr 1)) :: []
def bm_X11_image : bz_M := (RX11, yX11_image, cX11_image, 2, (some .int), 3, 65, bt_X11_image)
def bt_X11_restore : List bz_E := (0, .inl (bz_iload 1 1)) :: (1, .inl (bz_i2l)) :: (2, .inl (bz_push (.long 0) 1)) :: (3, .inl (bz_push (.long 1) 1)) :: (4, .inr (.inl (mX11_in, 3, 0))) :: (7, .inl (bz_if_ne 13)) ::
  (10, .inl (bz_push (.int (-2)) 2)) :: (12, .inr (.inr 1)) :: (13, .inl (bz_aload 0 1)) :: (14, .inl (bz_getR 10 39)) :: (17, .inl (bz_iload 1 1)) :: (18, .inl (bz_zald)) ::
  (19, .inl (bz_if_ne 25)) :: (22, .inl (bz_push (.int (-3)) 2)) :: (24, .inr (.inr 1)) :: (25, .inl (bz_aload 0 1)) :: (26, .inl (bz_push (.int 30) 2)) :: (28, .inl (bz_iload 1 1)) ::
  (29, .inl (bz_imul)) :: (30, .inl (bz_putI 10 40)) :: (33, .inl (bz_aload 0 1)) :: (34, .inl (bz_push (.int 0) 1)) :: (35, .inl (bz_putZ 10 41)) :: (38, .inl (bz_aload 0 1)) ::
  (39, .inr (.inl (mX11_passAll, 1, 11))) :: (42, .inl (bz_push (.int 1) 1)) :: (43, .inr (.inr 1)) :: []
def bm_X11_restore : bz_M := (RX11, yX11_restore, cX11_restore, 2, (some .int), 3, 65, bt_X11_restore)
def bt_X11_told : List bz_E := (0, .inl (bz_iload 1 1)) :: (1, .inl (bz_i2l)) :: (2, .inl (bz_push (.long 10) 3)) :: (5, .inl (bz_push (.long 12) 3)) :: (8, .inr (.inl (mX11_in, 3, 0))) :: (11, .inl (bz_if_eq 24)) ::
  (14, .inl (bz_aload 0 1)) :: (15, .inl (bz_getR 10 0)) :: (18, .inl (bz_iload 1 1)) :: (19, .inl (bz_push (.int 10) 2)) :: (21, .inl (bz_isub)) :: (22, .inl (bz_iald)) ::
  (23, .inr (.inr 1)) :: (24, .inl (bz_iload 1 1)) :: (25, .inl (bz_switch (bz_mk 0 [60, 65, 70, 75, 80]) 85)) :: (60, .inl (bz_aload 0 1)) :: (61, .inl (bz_getI 10 8)) :: (64, .inr (.inr 1)) ::
  (65, .inl (bz_aload 0 1)) :: (66, .inl (bz_getI 10 1)) :: (69, .inr (.inr 1)) :: (70, .inl (bz_aload 0 1)) :: (71, .inl (bz_getI 10 2)) :: (74, .inr (.inr 1)) ::
  (75, .inl (bz_aload 0 1)) :: (76, .inl (bz_getI 10 3)) :: (79, .inr (.inr 1)) :: (80, .inl (bz_aload 0 1)) :: (81, .inl (bz_getI 10 6)) :: (84, .inr (.inr 1)) ::
  (85, .inl (bz_push (.int (-2)) 2)) :: (87, .inr (.inr 1)) :: []
def bm_X11_told : bz_M := (RX11, yX11_told, cX11_told, 2, (some .int), 1, 25, bt_X11_told)
set_option maxRecDepth 100000 in
def bt_L_law : List bz_E := (16, .inl (bz_push (.int 0) 1)) :: (17, .inl (bz_istore 3 1)) :: (18, .inl (bz_iload 3 1)) :: (19, .inl (bz_aload 0 1)) :: (20, .inl (bz_slen)) :: (21, .inl (bz_push (.int 7) 2)) ::
  (23, .inl (bz_isub)) :: (24, .inl (bz_ic_gt 838)) :: (27, .inl (bz_aload 0 1)) :: (28, .inl (bz_iload 3 1)) :: (29, .inl (bz_iald)) :: (30, .inl (bz_push (.int 31) 2)) ::
  (32, .inl (bz_iand)) :: (33, .inl (bz_switch (bz_mk 0 [140, 173, 206, 229, 242, 255, 278, 301, 324, 347, 360, 413, 466, 509, 542, 555, 578, 601, 644, 720, 763, 786, 809]) 832)) :: (140, .inl (bz_aload 1 1)) :: (141, .inl (bz_aload 0 1)) :: (142, .inl (bz_iload 3 1)) :: (143, .inl (bz_push (.int 1) 1)) ::
  (144, .inl (bz_iadd)) :: (145, .inl (bz_iald)) :: (146, .inl (bz_aload 0 1)) :: (147, .inl (bz_iload 3 1)) :: (148, .inl (bz_push (.int 2) 1)) :: (149, .inl (bz_iadd)) ::
  (150, .inl (bz_iald)) :: (151, .inr (.inl (mX10_ball, 3, 10))) :: (154, .inl (bz_aload 2 1)) :: (155, .inl (bz_aload 0 1)) :: (156, .inl (bz_iload 3 1)) :: (157, .inl (bz_push (.int 1) 1)) ::
  (158, .inl (bz_iadd)) :: (159, .inl (bz_iald)) :: (160, .inl (bz_aload 0 1)) :: (161, .inl (bz_iload 3 1)) :: (162, .inl (bz_push (.int 2) 1)) :: (163, .inl (bz_iadd)) ::
  (164, .inl (bz_iald)) :: (165, .inr (.inl (mX11_ball, 3, 11))) :: (168, .inl (bz_ic_eq 832)) :: (171, .inl (bz_push (.int 0) 1)) :: (172, .inr (.inr 3)) :: (173, .inl (bz_aload 1 1)) ::
  (174, .inl (bz_aload 0 1)) :: (175, .inl (bz_iload 3 1)) :: (176, .inl (bz_push (.int 1) 1)) :: (177, .inl (bz_iadd)) :: (178, .inl (bz_iald)) :: (179, .inl (bz_aload 0 1)) ::
  (180, .inl (bz_iload 3 1)) :: (181, .inl (bz_push (.int 2) 1)) :: (182, .inl (bz_iadd)) :: (183, .inl (bz_iald)) :: (184, .inr (.inl (mX10_score, 3, 10))) :: (187, .inl (bz_aload 2 1)) ::
  (188, .inl (bz_aload 0 1)) :: (189, .inl (bz_iload 3 1)) :: (190, .inl (bz_push (.int 1) 1)) :: (191, .inl (bz_iadd)) :: (192, .inl (bz_iald)) :: (193, .inl (bz_aload 0 1)) ::
  (194, .inl (bz_iload 3 1)) :: (195, .inl (bz_push (.int 2) 1)) :: (196, .inl (bz_iadd)) :: (197, .inl (bz_iald)) :: (198, .inr (.inl (mX11_score, 3, 11))) :: (201, .inl (bz_ic_eq 832)) ::
  (204, .inl (bz_push (.int 0) 1)) :: (205, .inr (.inr 3)) :: (206, .inl (bz_aload 1 1)) :: (207, .inl (bz_aload 0 1)) :: (208, .inl (bz_iload 3 1)) :: (209, .inl (bz_push (.int 1) 1)) ::
  (210, .inl (bz_iadd)) :: (211, .inl (bz_iald)) :: (212, .inr (.inl (mX10_say, 2, 10))) :: (215, .inl (bz_aload 2 1)) :: (216, .inl (bz_aload 0 1)) :: (217, .inl (bz_iload 3 1)) ::
  (218, .inl (bz_push (.int 1) 1)) :: (219, .inl (bz_iadd)) :: (220, .inl (bz_iald)) :: (221, .inr (.inl (mX11_say, 2, 11))) :: (224, .inl (bz_ic_eq 832)) :: (227, .inl (bz_push (.int 0) 1)) ::
  (228, .inr (.inr 3)) :: (229, .inl (bz_aload 1 1)) :: (230, .inr (.inl (mX10_wipe, 1, 10))) :: (233, .inl (bz_aload 2 1)) :: (234, .inr (.inl (mX11_wipe, 1, 11))) :: (237, .inl (bz_ic_eq 832)) ::
  (240, .inl (bz_push (.int 0) 1)) :: (241, .inr (.inr 3)) :: (242, .inl (bz_aload 1 1)) :: (243, .inr (.inl (mX10_fault, 1, 10))) :: (246, .inl (bz_aload 2 1)) :: (247, .inr (.inl (mX11_fault, 1, 11))) ::
  (250, .inl (bz_ic_eq 832)) :: (253, .inl (bz_push (.int 0) 1)) :: (254, .inr (.inr 3)) :: (255, .inl (bz_aload 1 1)) :: (256, .inl (bz_aload 0 1)) :: (257, .inl (bz_iload 3 1)) ::
  (258, .inl (bz_push (.int 1) 1)) :: (259, .inl (bz_iadd)) :: (260, .inl (bz_iald)) :: (261, .inr (.inl (mX10_judge, 2, 10))) :: (264, .inl (bz_aload 2 1)) :: (265, .inl (bz_aload 0 1)) ::
  (266, .inl (bz_iload 3 1)) :: (267, .inl (bz_push (.int 1) 1)) :: (268, .inl (bz_iadd)) :: (269, .inl (bz_iald)) :: (270, .inr (.inl (mX11_judge, 2, 11))) :: (273, .inl (bz_ic_eq 832)) ::
  (276, .inl (bz_push (.int 0) 1)) :: (277, .inr (.inr 3)) :: (278, .inl (bz_aload 1 1)) :: (279, .inl (bz_aload 0 1)) :: (280, .inl (bz_iload 3 1)) :: (281, .inl (bz_push (.int 1) 1)) ::
  (282, .inl (bz_iadd)) :: (283, .inl (bz_iald)) :: (284, .inr (.inl (mX10_behind, 2, 10))) :: (287, .inl (bz_aload 2 1)) :: (288, .inl (bz_aload 0 1)) :: (289, .inl (bz_iload 3 1)) ::
  (290, .inl (bz_push (.int 1) 1)) :: (291, .inl (bz_iadd)) :: (292, .inl (bz_iald)) :: (293, .inr (.inl (mX11_behind, 2, 11))) :: (296, .inl (bz_ic_eq 832)) :: (299, .inl (bz_push (.int 0) 1)) ::
  (300, .inr (.inr 3)) :: (301, .inl (bz_aload 1 1)) :: (302, .inl (bz_aload 0 1)) :: (303, .inl (bz_iload 3 1)) :: (304, .inl (bz_push (.int 1) 1)) :: (305, .inl (bz_iadd)) ::
  (306, .inl (bz_iald)) :: (307, .inr (.inl (mX10_table, 2, 10))) :: (310, .inl (bz_aload 2 1)) :: (311, .inl (bz_aload 0 1)) :: (312, .inl (bz_iload 3 1)) :: (313, .inl (bz_push (.int 1) 1)) ::
  (314, .inl (bz_iadd)) :: (315, .inl (bz_iald)) :: (316, .inr (.inl (mX11_table, 2, 11))) :: (319, .inl (bz_ic_eq 832)) :: (322, .inl (bz_push (.int 0) 1)) :: (323, .inr (.inr 3)) ::
  (324, .inl (bz_aload 1 1)) :: (325, .inl (bz_aload 0 1)) :: (326, .inl (bz_iload 3 1)) :: (327, .inl (bz_push (.int 1) 1)) :: (328, .inl (bz_iadd)) :: (329, .inl (bz_iald)) ::
  (330, .inr (.inl (mX10_candour, 2, 10))) :: (333, .inl (bz_aload 2 1)) :: (334, .inl (bz_aload 0 1)) :: (335, .inl (bz_iload 3 1)) :: (336, .inl (bz_push (.int 1) 1)) :: (337, .inl (bz_iadd)) ::
  (338, .inl (bz_iald)) :: (339, .inr (.inl (mX11_candour, 2, 11))) :: (342, .inl (bz_ic_eq 832)) :: (345, .inl (bz_push (.int 0) 1)) :: (346, .inr (.inr 3)) :: (347, .inl (bz_aload 1 1)) ::
  (348, .inr (.inl (mX10_done, 1, 10))) :: (351, .inl (bz_aload 2 1)) :: (352, .inr (.inl (mX11_done, 1, 11))) :: (355, .inl (bz_ic_eq 832)) :: (358, .inl (bz_push (.int 0) 1)) :: (359, .inr (.inr 3)) ::
  (360, .inl (bz_aload 1 1)) :: (361, .inl (bz_aload 0 1)) :: (362, .inl (bz_iload 3 1)) :: (363, .inl (bz_push (.int 1) 1)) :: (364, .inl (bz_iadd)) :: (365, .inl (bz_iald)) ::
  (366, .inl (bz_aload 0 1)) :: (367, .inl (bz_iload 3 1)) :: (368, .inl (bz_push (.int 2) 1)) :: (369, .inl (bz_iadd)) :: (370, .inl (bz_iald)) :: (371, .inl (bz_aload 0 1)) ::
  (372, .inl (bz_iload 3 1)) :: (373, .inl (bz_push (.int 3) 1)) :: (374, .inl (bz_iadd)) :: (375, .inl (bz_iald)) :: (376, .inl (bz_aload 0 1)) :: (377, .inl (bz_iload 3 1)) ::
  (378, .inl (bz_push (.int 4) 1)) :: (379, .inl (bz_iadd)) :: (380, .inl (bz_iald)) :: (381, .inr (.inl (mX10_hint, 5, 10))) :: (384, .inl (bz_aload 2 1)) :: (385, .inl (bz_aload 0 1)) ::
  (386, .inl (bz_iload 3 1)) :: (387, .inl (bz_push (.int 1) 1)) :: (388, .inl (bz_iadd)) :: (389, .inl (bz_iald)) :: (390, .inl (bz_aload 0 1)) :: (391, .inl (bz_iload 3 1)) ::
  (392, .inl (bz_push (.int 2) 1)) :: (393, .inl (bz_iadd)) :: (394, .inl (bz_iald)) :: (395, .inl (bz_aload 0 1)) :: (396, .inl (bz_iload 3 1)) :: (397, .inl (bz_push (.int 3) 1)) ::
  (398, .inl (bz_iadd)) :: (399, .inl (bz_iald)) :: (400, .inl (bz_aload 0 1)) :: (401, .inl (bz_iload 3 1)) :: (402, .inl (bz_push (.int 4) 1)) :: (403, .inl (bz_iadd)) ::
  (404, .inl (bz_iald)) :: (405, .inr (.inl (mX11_hint, 5, 11))) :: (408, .inl (bz_ic_eq 832)) :: (411, .inl (bz_push (.int 0) 1)) :: (412, .inr (.inr 3)) :: (413, .inl (bz_aload 1 1)) ::
  (414, .inl (bz_aload 0 1)) :: (415, .inl (bz_iload 3 1)) :: (416, .inl (bz_push (.int 1) 1)) :: (417, .inl (bz_iadd)) :: (418, .inl (bz_iald)) :: (419, .inl (bz_aload 0 1)) ::
  (420, .inl (bz_iload 3 1)) :: (421, .inl (bz_push (.int 2) 1)) :: (422, .inl (bz_iadd)) :: (423, .inl (bz_iald)) :: (424, .inl (bz_aload 0 1)) :: (425, .inl (bz_iload 3 1)) ::
  (426, .inl (bz_push (.int 3) 1)) :: (427, .inl (bz_iadd)) :: (428, .inl (bz_iald)) :: (429, .inl (bz_aload 0 1)) :: (430, .inl (bz_iload 3 1)) :: (431, .inl (bz_push (.int 4) 1)) ::
  (432, .inl (bz_iadd)) :: (433, .inl (bz_iald)) :: (434, .inr (.inl (mX10_alone, 5, 10))) :: (437, .inl (bz_aload 2 1)) :: (438, .inl (bz_aload 0 1)) :: (439, .inl (bz_iload 3 1)) ::
  (440, .inl (bz_push (.int 1) 1)) :: (441, .inl (bz_iadd)) :: (442, .inl (bz_iald)) :: (443, .inl (bz_aload 0 1)) :: (444, .inl (bz_iload 3 1)) :: (445, .inl (bz_push (.int 2) 1)) ::
  (446, .inl (bz_iadd)) :: (447, .inl (bz_iald)) :: (448, .inl (bz_aload 0 1)) :: (449, .inl (bz_iload 3 1)) :: (450, .inl (bz_push (.int 3) 1)) :: (451, .inl (bz_iadd)) ::
  (452, .inl (bz_iald)) :: (453, .inl (bz_aload 0 1)) :: (454, .inl (bz_iload 3 1)) :: (455, .inl (bz_push (.int 4) 1)) :: (456, .inl (bz_iadd)) :: (457, .inl (bz_iald)) ::
  (458, .inr (.inl (mX11_alone, 5, 11))) :: (461, .inl (bz_ic_eq 832)) :: (464, .inl (bz_push (.int 0) 1)) :: (465, .inr (.inr 3)) :: (466, .inl (bz_aload 1 1)) :: (467, .inl (bz_aload 0 1)) ::
  (468, .inl (bz_iload 3 1)) :: (469, .inl (bz_push (.int 1) 1)) :: (470, .inl (bz_iadd)) :: (471, .inl (bz_iald)) :: (472, .inl (bz_aload 0 1)) :: (473, .inl (bz_iload 3 1)) ::
  (474, .inl (bz_push (.int 2) 1)) :: (475, .inl (bz_iadd)) :: (476, .inl (bz_iald)) :: (477, .inl (bz_aload 0 1)) :: (478, .inl (bz_iload 3 1)) :: (479, .inl (bz_push (.int 3) 1)) ::
  (480, .inl (bz_iadd)) :: (481, .inl (bz_iald)) :: (482, .inr (.inl (mX10_strokes, 4, 10))) :: (485, .inl (bz_aload 2 1)) :: (486, .inl (bz_aload 0 1)) :: (487, .inl (bz_iload 3 1)) ::
  (488, .inl (bz_push (.int 1) 1)) :: (489, .inl (bz_iadd)) :: (490, .inl (bz_iald)) :: (491, .inl (bz_aload 0 1)) :: (492, .inl (bz_iload 3 1)) :: (493, .inl (bz_push (.int 2) 1)) ::
  (494, .inl (bz_iadd)) :: (495, .inl (bz_iald)) :: (496, .inl (bz_aload 0 1)) :: (497, .inl (bz_iload 3 1)) :: (498, .inl (bz_push (.int 3) 1)) :: (499, .inl (bz_iadd)) ::
  (500, .inl (bz_iald)) :: (501, .inr (.inl (mX11_strokes, 4, 11))) :: (504, .inl (bz_ic_eq 832)) :: (507, .inl (bz_push (.int 0) 1)) :: (508, .inr (.inr 3)) :: (509, .inl (bz_aload 1 1)) ::
  (510, .inl (bz_aload 0 1)) :: (511, .inl (bz_iload 3 1)) :: (512, .inl (bz_push (.int 1) 1)) :: (513, .inl (bz_iadd)) :: (514, .inl (bz_iald)) :: (515, .inl (bz_aload 0 1)) ::
  (516, .inl (bz_iload 3 1)) :: (517, .inl (bz_push (.int 2) 1)) :: (518, .inl (bz_iadd)) :: (519, .inl (bz_iald)) :: (520, .inr (.inl (mX10_seen, 3, 10))) :: (523, .inl (bz_aload 2 1)) ::
  (524, .inl (bz_aload 0 1)) :: (525, .inl (bz_iload 3 1)) :: (526, .inl (bz_push (.int 1) 1)) :: (527, .inl (bz_iadd)) :: (528, .inl (bz_iald)) :: (529, .inl (bz_aload 0 1)) ::
  (530, .inl (bz_iload 3 1)) :: (531, .inl (bz_push (.int 2) 1)) :: (532, .inl (bz_iadd)) :: (533, .inl (bz_iald)) :: (534, .inr (.inl (mX11_seen, 3, 11))) :: (537, .inl (bz_ic_eq 832)) ::
  (540, .inl (bz_push (.int 0) 1)) :: (541, .inr (.inr 3)) :: (542, .inl (bz_aload 1 1)) :: (543, .inr (.inl (mX10_forget, 1, 10))) :: (546, .inl (bz_aload 2 1)) :: (547, .inr (.inl (mX11_forget, 1, 11))) ::
  (550, .inl (bz_ic_eq 832)) :: (553, .inl (bz_push (.int 0) 1)) :: (554, .inr (.inr 3)) :: (555, .inl (bz_aload 1 1)) :: (556, .inl (bz_aload 0 1)) :: (557, .inl (bz_iload 3 1)) ::
  (558, .inl (bz_push (.int 1) 1)) :: (559, .inl (bz_iadd)) :: (560, .inl (bz_iald)) :: (561, .inr (.inl (mX10_sent, 2, 10))) :: (564, .inl (bz_aload 2 1)) :: (565, .inl (bz_aload 0 1)) ::
  (566, .inl (bz_iload 3 1)) :: (567, .inl (bz_push (.int 1) 1)) :: (568, .inl (bz_iadd)) :: (569, .inl (bz_iald)) :: (570, .inr (.inl (mX11_sent, 2, 11))) :: (573, .inl (bz_ic_eq 832)) ::
  (576, .inl (bz_push (.int 0) 1)) :: (577, .inr (.inr 3)) :: (578, .inl (bz_aload 1 1)) :: (579, .inl (bz_aload 0 1)) :: (580, .inl (bz_iload 3 1)) :: (581, .inl (bz_push (.int 1) 1)) ::
  (582, .inl (bz_iadd)) :: (583, .inl (bz_iald)) :: (584, .inr (.inl (mX10_ask, 2, 10))) :: (587, .inl (bz_aload 2 1)) :: (588, .inl (bz_aload 0 1)) :: (589, .inl (bz_iload 3 1)) ::
  (590, .inl (bz_push (.int 1) 1)) :: (591, .inl (bz_iadd)) :: (592, .inl (bz_iald)) :: (593, .inr (.inl (mX11_ask, 2, 11))) :: (596, .inl (bz_ic_eq 832)) :: (599, .inl (bz_push (.int 0) 1)) ::
  (600, .inr (.inr 3)) :: (601, .inl (bz_aload 1 1)) :: (602, .inl (bz_aload 0 1)) :: (603, .inl (bz_iload 3 1)) :: (604, .inl (bz_push (.int 1) 1)) :: (605, .inl (bz_iadd)) ::
  (606, .inl (bz_iald)) :: (607, .inl (bz_aload 0 1)) :: (608, .inl (bz_iload 3 1)) :: (609, .inl (bz_push (.int 2) 1)) :: (610, .inl (bz_iadd)) :: (611, .inl (bz_iald)) ::
  (612, .inl (bz_aload 0 1)) :: (613, .inl (bz_iload 3 1)) :: (614, .inl (bz_push (.int 3) 1)) :: (615, .inl (bz_iadd)) :: (616, .inl (bz_iald)) :: (617, .inr (.inl (mX10_chalk, 4, 10))) ::
  (620, .inl (bz_aload 2 1)) :: (621, .inl (bz_aload 0 1)) :: (622, .inl (bz_iload 3 1)) :: (623, .inl (bz_push (.int 1) 1)) :: (624, .inl (bz_iadd)) :: (625, .inl (bz_iald)) ::
  (626, .inl (bz_aload 0 1)) :: (627, .inl (bz_iload 3 1)) :: (628, .inl (bz_push (.int 2) 1)) :: (629, .inl (bz_iadd)) :: (630, .inl (bz_iald)) :: (631, .inl (bz_aload 0 1)) ::
  (632, .inl (bz_iload 3 1)) :: (633, .inl (bz_push (.int 3) 1)) :: (634, .inl (bz_iadd)) :: (635, .inl (bz_iald)) :: (636, .inr (.inl (mX11_chalk, 4, 11))) :: (639, .inl (bz_ic_eq 832)) ::
  (642, .inl (bz_push (.int 0) 1)) :: (643, .inr (.inr 3)) :: (644, .inl (bz_aload 1 1)) :: (645, .inl (bz_aload 0 1)) :: (646, .inl (bz_iload 3 1)) :: (647, .inl (bz_push (.int 1) 1)) ::
  (648, .inl (bz_iadd)) :: (649, .inl (bz_iald)) :: (650, .inl (bz_aload 0 1)) :: (651, .inl (bz_iload 3 1)) :: (652, .inl (bz_push (.int 2) 1)) :: (653, .inl (bz_iadd)) ::
  (654, .inl (bz_iald)) :: (655, .inl (bz_aload 0 1)) :: (656, .inl (bz_iload 3 1)) :: (657, .inl (bz_push (.int 3) 1)) :: (658, .inl (bz_iadd)) :: (659, .inl (bz_iald)) ::
  (660, .inl (bz_aload 0 1)) :: (661, .inl (bz_iload 3 1)) :: (662, .inl (bz_push (.int 4) 1)) :: (663, .inl (bz_iadd)) :: (664, .inl (bz_iald)) :: (665, .inl (bz_aload 0 1)) ::
  (666, .inl (bz_iload 3 1)) :: (667, .inl (bz_push (.int 5) 1)) :: (668, .inl (bz_iadd)) :: (669, .inl (bz_iald)) :: (670, .inl (bz_aload 0 1)) :: (671, .inl (bz_iload 3 1)) ::
  (672, .inl (bz_push (.int 6) 2)) :: (674, .inl (bz_iadd)) :: (675, .inl (bz_iald)) :: (676, .inr (.inl (mX10_match, 7, 10))) :: (679, .inl (bz_aload 2 1)) :: (680, .inl (bz_aload 0 1)) ::
  (681, .inl (bz_iload 3 1)) :: (682, .inl (bz_push (.int 1) 1)) :: (683, .inl (bz_iadd)) :: (684, .inl (bz_iald)) :: (685, .inl (bz_aload 0 1)) :: (686, .inl (bz_iload 3 1)) ::
  (687, .inl (bz_push (.int 2) 1)) :: (688, .inl (bz_iadd)) :: (689, .inl (bz_iald)) :: (690, .inl (bz_aload 0 1)) :: (691, .inl (bz_iload 3 1)) :: (692, .inl (bz_push (.int 3) 1)) ::
  (693, .inl (bz_iadd)) :: (694, .inl (bz_iald)) :: (695, .inl (bz_aload 0 1)) :: (696, .inl (bz_iload 3 1)) :: (697, .inl (bz_push (.int 4) 1)) :: (698, .inl (bz_iadd)) ::
  (699, .inl (bz_iald)) :: (700, .inl (bz_aload 0 1)) :: (701, .inl (bz_iload 3 1)) :: (702, .inl (bz_push (.int 5) 1)) :: (703, .inl (bz_iadd)) :: (704, .inl (bz_iald)) ::
  (705, .inl (bz_aload 0 1)) :: (706, .inl (bz_iload 3 1)) :: (707, .inl (bz_push (.int 6) 2)) :: (709, .inl (bz_iadd)) :: (710, .inl (bz_iald)) :: (711, .inr (.inl (mX11_match, 7, 11))) ::
  (714, .inl (bz_lcmp)) :: (715, .inl (bz_if_eq 832)) :: (718, .inl (bz_push (.int 0) 1)) :: (719, .inr (.inr 3)) :: (720, .inl (bz_aload 1 1)) :: (721, .inl (bz_aload 0 1)) ::
  (722, .inl (bz_iload 3 1)) :: (723, .inl (bz_push (.int 1) 1)) :: (724, .inl (bz_iadd)) :: (725, .inl (bz_iald)) :: (726, .inl (bz_aload 0 1)) :: (727, .inl (bz_iload 3 1)) ::
  (728, .inl (bz_push (.int 2) 1)) :: (729, .inl (bz_iadd)) :: (730, .inl (bz_iald)) :: (731, .inl (bz_aload 0 1)) :: (732, .inl (bz_iload 3 1)) :: (733, .inl (bz_push (.int 3) 1)) ::
  (734, .inl (bz_iadd)) :: (735, .inl (bz_iald)) :: (736, .inr (.inl (mX10_season, 4, 10))) :: (739, .inl (bz_aload 2 1)) :: (740, .inl (bz_aload 0 1)) :: (741, .inl (bz_iload 3 1)) ::
  (742, .inl (bz_push (.int 1) 1)) :: (743, .inl (bz_iadd)) :: (744, .inl (bz_iald)) :: (745, .inl (bz_aload 0 1)) :: (746, .inl (bz_iload 3 1)) :: (747, .inl (bz_push (.int 2) 1)) ::
  (748, .inl (bz_iadd)) :: (749, .inl (bz_iald)) :: (750, .inl (bz_aload 0 1)) :: (751, .inl (bz_iload 3 1)) :: (752, .inl (bz_push (.int 3) 1)) :: (753, .inl (bz_iadd)) ::
  (754, .inl (bz_iald)) :: (755, .inr (.inl (mX11_season, 4, 11))) :: (758, .inl (bz_ic_eq 832)) :: (761, .inl (bz_push (.int 0) 1)) :: (762, .inr (.inr 3)) :: (763, .inl (bz_aload 1 1)) ::
  (764, .inl (bz_aload 0 1)) :: (765, .inl (bz_iload 3 1)) :: (766, .inl (bz_push (.int 1) 1)) :: (767, .inl (bz_iadd)) :: (768, .inl (bz_iald)) :: (769, .inr (.inl (mX10_image, 2, 10))) ::
  (772, .inl (bz_aload 2 1)) :: (773, .inl (bz_aload 0 1)) :: (774, .inl (bz_iload 3 1)) :: (775, .inl (bz_push (.int 1) 1)) :: (776, .inl (bz_iadd)) :: (777, .inl (bz_iald)) ::
  (778, .inr (.inl (mX11_image, 2, 11))) :: (781, .inl (bz_ic_eq 832)) :: (784, .inl (bz_push (.int 0) 1)) :: (785, .inr (.inr 3)) :: (786, .inl (bz_aload 1 1)) :: (787, .inl (bz_aload 0 1)) ::
  (788, .inl (bz_iload 3 1)) :: (789, .inl (bz_push (.int 1) 1)) :: (790, .inl (bz_iadd)) :: (791, .inl (bz_iald)) :: (792, .inr (.inl (mX10_restore, 2, 10))) :: (795, .inl (bz_aload 2 1)) ::
  (796, .inl (bz_aload 0 1)) :: (797, .inl (bz_iload 3 1)) :: (798, .inl (bz_push (.int 1) 1)) :: (799, .inl (bz_iadd)) :: (800, .inl (bz_iald)) :: (801, .inr (.inl (mX11_restore, 2, 11))) ::
  (804, .inl (bz_ic_eq 832)) :: (807, .inl (bz_push (.int 0) 1)) :: (808, .inr (.inr 3)) :: (809, .inl (bz_aload 1 1)) :: (810, .inl (bz_aload 0 1)) :: (811, .inl (bz_iload 3 1)) ::
  (812, .inl (bz_push (.int 1) 1)) :: (813, .inl (bz_iadd)) :: (814, .inl (bz_iald)) :: (815, .inr (.inl (mX10_told, 2, 10))) :: (818, .inl (bz_aload 2 1)) :: (819, .inl (bz_aload 0 1)) ::
  (820, .inl (bz_iload 3 1)) :: (821, .inl (bz_push (.int 1) 1)) :: (822, .inl (bz_iadd)) :: (823, .inl (bz_iald)) :: (824, .inr (.inl (mX11_told, 2, 11))) :: (827, .inl (bz_ic_eq 832)) ::
  (830, .inl (bz_push (.int 0) 1)) :: (831, .inr (.inr 3)) :: (832, .inl (bz_iinc 3 7)) :: (835, .inl (bz_goto 18)) :: (838, .inl (bz_push (.int 1) 1)) :: (839, .inr (.inr 3)) :: []
def bm_L_law : bz_M := (RL, yL_law, cL_law, 4, (some .boolean), 9, 208, bt_L_law)
def bz_ms : List bz_M := [bm_X0_isLost, bm_X0_winsAtOnce, bm_X0_learn, bm_X0_winningMove, bm_X6_copy, bm_X4_copy, bm_X1_keep, bm_X2_choose, bm_X2_power, bm_X2_winning, bm_X2_games, bm_X2_commonDivisor, bm_X3_add, bm_X3_empty, bm_X10_isWithin, bm_X3_signAt, bm_X3_isLetter, bm_X3_canStand, bm_X3_isActAt, bm_X3_firstFault, bm_X3_actKind, bm_X3_actLength, bm_X4_add, bm_J9_floorMod_7cf53, bm_X7_cellBehind, bm_X4_allFit, bm_X5_begin, bm_X10_turned, bm_X10_next, bm_X6_lyingOn, bm_X5_touch, bm_X10_isPocket, bm_X5_run, bm_X5_pointsMore, bm_X5_foulsMore, bm_X10_isBall, bm_X6_isDown, bm_X6_cellOrNone, bm_X6_howManyDown, bm_X6_reasonAgainst, bm_X6_driftOne, bm_X6_drift, bm_X10_bit, bm_X7_walk, bm_X8_begin, bm_X8_play, bm_X8_tryAct, bm_X8_runText, bm_X8_runSeason, bm_X8_forceToTouch, bm_X10_isCell, bm_X10_isPlace, bm_X9_gather, bm_X9_countLeft, bm_J9_max_7cf53, bm_X9_mostLeftAt, bm_X9_chooseStep, bm_X10_ball, bm_X10_score, bm_X10_say, bm_X10_wipe, bm_X10_fault, bm_X10_tryText, bm_X10_judge, bm_X10_behind, bm_X10_table, bm_X10_candour, bm_X10_done, bm_X10_hint, bm_J13_bitCount_95d88, bm_X10_alone, bm_X10_reachOf, bm_X10_firstWayInto, bm_X10_withAllThatReach, bm_X10_strokes, bm_X10_seen, bm_X10_forget, bm_X10_sent, bm_X10_ask, bm_X10_chalk, bm_J9_max_f86c9, bm_X10_match, bm_X10_season, bm_X10_image, bm_X10_restore, bm_X10_told, bm_X11_in, bm_X11_isBall, bm_X11_isCell, bm_X11_isPocket, bm_X11_isPlace, bm_X11_home, bm_X11_downwards, bm_X11_across, bm_X11_turned, bm_X11_ahead, bm_X11_ballOn, bm_X11_ball, bm_X11_score, bm_X11_say, bm_X11_wipe, bm_X11_close, bm_X11_begin, bm_X11_deed, bm_X11_force, bm_X11_readOn, bm_X11_fault, bm_X11_touch, bm_X11_step, bm_X11_send, bm_X11_stroke, bm_X11_columnOf, bm_X11_drift, bm_X11_nap, bm_X11_whyNot, bm_X11_happen, bm_X11_keepNow, bm_X11_back, bm_X11_goCrises, bm_X11_refusal, bm_X11_judge, bm_X11_behind, bm_X11_downMany, bm_X11_table, bm_X11_candour, bm_X11_done, bm_X11_stepsBy, bm_X11_hint, bm_X11_next, bm_X11_behindSteps, bm_X11_metMany, bm_X11_stepsBack, bm_X11_alone, bm_X11_leadsTo, bm_X11_wayTo, bm_X11_findFar, bm_X11_strokes, bm_X11_seen, bm_X11_forget, bm_X11_isFit, bm_X11_findFits, bm_X11_sent, bm_X11_mostNow, bm_X11_ask, bm_X11_digit, bm_X11_tenTo, bm_X11_leastTake, bm_X11_chalk, bm_X11_lowest, bm_X11_power, bm_X11_findChance, bm_X11_match, bm_X11_actBy, bm_X11_season, bm_X11_pass, bm_X11_passRow, bm_X11_passAll, bm_X11_image, bm_X11_restore, bm_X11_told, bm_L_law]
def bz_P (k : Nat) : bz_M := bz_ms.getD k ("", yL_law, cL_law, 0, none, 0, 0, [])
theorem bp_X0_isLost : bz_P mX0_isLost = bm_X0_isLost := rfl
theorem bT_X0_isLost : (bz_P mX0_isLost).2.2.2.2.2.2.2 = bt_X0_isLost := rfl
theorem bp_X0_winsAtOnce : bz_P mX0_winsAtOnce = bm_X0_winsAtOnce := rfl
theorem bT_X0_winsAtOnce : (bz_P mX0_winsAtOnce).2.2.2.2.2.2.2 = bt_X0_winsAtOnce := rfl
theorem bp_X0_learn : bz_P mX0_learn = bm_X0_learn := rfl
theorem bT_X0_learn : (bz_P mX0_learn).2.2.2.2.2.2.2 = bt_X0_learn := rfl
theorem bp_X0_winningMove : bz_P mX0_winningMove = bm_X0_winningMove := rfl
theorem bT_X0_winningMove : (bz_P mX0_winningMove).2.2.2.2.2.2.2 = bt_X0_winningMove := rfl
theorem bp_X6_copy : bz_P mX6_copy = bm_X6_copy := rfl
theorem bT_X6_copy : (bz_P mX6_copy).2.2.2.2.2.2.2 = bt_X6_copy := rfl
theorem bp_X4_copy : bz_P mX4_copy = bm_X4_copy := rfl
theorem bT_X4_copy : (bz_P mX4_copy).2.2.2.2.2.2.2 = bt_X4_copy := rfl
theorem bp_X1_keep : bz_P mX1_keep = bm_X1_keep := rfl
theorem bT_X1_keep : (bz_P mX1_keep).2.2.2.2.2.2.2 = bt_X1_keep := rfl
theorem bp_X2_choose : bz_P mX2_choose = bm_X2_choose := rfl
theorem bT_X2_choose : (bz_P mX2_choose).2.2.2.2.2.2.2 = bt_X2_choose := rfl
theorem bp_X2_power : bz_P mX2_power = bm_X2_power := rfl
theorem bT_X2_power : (bz_P mX2_power).2.2.2.2.2.2.2 = bt_X2_power := rfl
theorem bp_X2_winning : bz_P mX2_winning = bm_X2_winning := rfl
theorem bT_X2_winning : (bz_P mX2_winning).2.2.2.2.2.2.2 = bt_X2_winning := rfl
theorem bp_X2_games : bz_P mX2_games = bm_X2_games := rfl
theorem bT_X2_games : (bz_P mX2_games).2.2.2.2.2.2.2 = bt_X2_games := rfl
theorem bp_X2_commonDivisor : bz_P mX2_commonDivisor = bm_X2_commonDivisor := rfl
theorem bT_X2_commonDivisor : (bz_P mX2_commonDivisor).2.2.2.2.2.2.2 = bt_X2_commonDivisor := rfl
theorem bp_X3_add : bz_P mX3_add = bm_X3_add := rfl
theorem bT_X3_add : (bz_P mX3_add).2.2.2.2.2.2.2 = bt_X3_add := rfl
theorem bp_X3_empty : bz_P mX3_empty = bm_X3_empty := rfl
theorem bT_X3_empty : (bz_P mX3_empty).2.2.2.2.2.2.2 = bt_X3_empty := rfl
theorem bp_X10_isWithin : bz_P mX10_isWithin = bm_X10_isWithin := rfl
theorem bT_X10_isWithin : (bz_P mX10_isWithin).2.2.2.2.2.2.2 = bt_X10_isWithin := rfl
theorem bp_X3_signAt : bz_P mX3_signAt = bm_X3_signAt := rfl
theorem bT_X3_signAt : (bz_P mX3_signAt).2.2.2.2.2.2.2 = bt_X3_signAt := rfl
theorem bp_X3_isLetter : bz_P mX3_isLetter = bm_X3_isLetter := rfl
theorem bT_X3_isLetter : (bz_P mX3_isLetter).2.2.2.2.2.2.2 = bt_X3_isLetter := rfl
theorem bp_X3_canStand : bz_P mX3_canStand = bm_X3_canStand := rfl
theorem bT_X3_canStand : (bz_P mX3_canStand).2.2.2.2.2.2.2 = bt_X3_canStand := rfl
theorem bp_X3_isActAt : bz_P mX3_isActAt = bm_X3_isActAt := rfl
theorem bT_X3_isActAt : (bz_P mX3_isActAt).2.2.2.2.2.2.2 = bt_X3_isActAt := rfl
theorem bp_X3_firstFault : bz_P mX3_firstFault = bm_X3_firstFault := rfl
theorem bT_X3_firstFault : (bz_P mX3_firstFault).2.2.2.2.2.2.2 = bt_X3_firstFault := rfl
theorem bp_X3_actKind : bz_P mX3_actKind = bm_X3_actKind := rfl
theorem bT_X3_actKind : (bz_P mX3_actKind).2.2.2.2.2.2.2 = bt_X3_actKind := rfl
theorem bp_X3_actLength : bz_P mX3_actLength = bm_X3_actLength := rfl
theorem bT_X3_actLength : (bz_P mX3_actLength).2.2.2.2.2.2.2 = bt_X3_actLength := rfl
theorem bp_X4_add : bz_P mX4_add = bm_X4_add := rfl
theorem bT_X4_add : (bz_P mX4_add).2.2.2.2.2.2.2 = bt_X4_add := rfl
theorem bp_J9_floorMod_7cf53 : bz_P mJ9_floorMod_7cf53 = bm_J9_floorMod_7cf53 := rfl
theorem bT_J9_floorMod_7cf53 : (bz_P mJ9_floorMod_7cf53).2.2.2.2.2.2.2 = bt_J9_floorMod_7cf53 := rfl
theorem bp_X7_cellBehind : bz_P mX7_cellBehind = bm_X7_cellBehind := rfl
theorem bT_X7_cellBehind : (bz_P mX7_cellBehind).2.2.2.2.2.2.2 = bt_X7_cellBehind := rfl
theorem bp_X4_allFit : bz_P mX4_allFit = bm_X4_allFit := rfl
theorem bT_X4_allFit : (bz_P mX4_allFit).2.2.2.2.2.2.2 = bt_X4_allFit := rfl
theorem bp_X5_begin : bz_P mX5_begin = bm_X5_begin := rfl
theorem bT_X5_begin : (bz_P mX5_begin).2.2.2.2.2.2.2 = bt_X5_begin := rfl
theorem bp_X10_turned : bz_P mX10_turned = bm_X10_turned := rfl
theorem bT_X10_turned : (bz_P mX10_turned).2.2.2.2.2.2.2 = bt_X10_turned := rfl
theorem bp_X10_next : bz_P mX10_next = bm_X10_next := rfl
theorem bT_X10_next : (bz_P mX10_next).2.2.2.2.2.2.2 = bt_X10_next := rfl
theorem bp_X6_lyingOn : bz_P mX6_lyingOn = bm_X6_lyingOn := rfl
theorem bT_X6_lyingOn : (bz_P mX6_lyingOn).2.2.2.2.2.2.2 = bt_X6_lyingOn := rfl
theorem bp_X5_touch : bz_P mX5_touch = bm_X5_touch := rfl
theorem bT_X5_touch : (bz_P mX5_touch).2.2.2.2.2.2.2 = bt_X5_touch := rfl
theorem bp_X10_isPocket : bz_P mX10_isPocket = bm_X10_isPocket := rfl
theorem bT_X10_isPocket : (bz_P mX10_isPocket).2.2.2.2.2.2.2 = bt_X10_isPocket := rfl
theorem bp_X5_run : bz_P mX5_run = bm_X5_run := rfl
theorem bT_X5_run : (bz_P mX5_run).2.2.2.2.2.2.2 = bt_X5_run := rfl
theorem bp_X5_pointsMore : bz_P mX5_pointsMore = bm_X5_pointsMore := rfl
theorem bT_X5_pointsMore : (bz_P mX5_pointsMore).2.2.2.2.2.2.2 = bt_X5_pointsMore := rfl
theorem bp_X5_foulsMore : bz_P mX5_foulsMore = bm_X5_foulsMore := rfl
theorem bT_X5_foulsMore : (bz_P mX5_foulsMore).2.2.2.2.2.2.2 = bt_X5_foulsMore := rfl
theorem bp_X10_isBall : bz_P mX10_isBall = bm_X10_isBall := rfl
theorem bT_X10_isBall : (bz_P mX10_isBall).2.2.2.2.2.2.2 = bt_X10_isBall := rfl
theorem bp_X6_isDown : bz_P mX6_isDown = bm_X6_isDown := rfl
theorem bT_X6_isDown : (bz_P mX6_isDown).2.2.2.2.2.2.2 = bt_X6_isDown := rfl
theorem bp_X6_cellOrNone : bz_P mX6_cellOrNone = bm_X6_cellOrNone := rfl
theorem bT_X6_cellOrNone : (bz_P mX6_cellOrNone).2.2.2.2.2.2.2 = bt_X6_cellOrNone := rfl
theorem bp_X6_howManyDown : bz_P mX6_howManyDown = bm_X6_howManyDown := rfl
theorem bT_X6_howManyDown : (bz_P mX6_howManyDown).2.2.2.2.2.2.2 = bt_X6_howManyDown := rfl
theorem bp_X6_reasonAgainst : bz_P mX6_reasonAgainst = bm_X6_reasonAgainst := rfl
theorem bT_X6_reasonAgainst : (bz_P mX6_reasonAgainst).2.2.2.2.2.2.2 = bt_X6_reasonAgainst := rfl
theorem bp_X6_driftOne : bz_P mX6_driftOne = bm_X6_driftOne := rfl
theorem bT_X6_driftOne : (bz_P mX6_driftOne).2.2.2.2.2.2.2 = bt_X6_driftOne := rfl
theorem bp_X6_drift : bz_P mX6_drift = bm_X6_drift := rfl
theorem bT_X6_drift : (bz_P mX6_drift).2.2.2.2.2.2.2 = bt_X6_drift := rfl
theorem bp_X10_bit : bz_P mX10_bit = bm_X10_bit := rfl
theorem bT_X10_bit : (bz_P mX10_bit).2.2.2.2.2.2.2 = bt_X10_bit := rfl
theorem bp_X7_walk : bz_P mX7_walk = bm_X7_walk := rfl
theorem bT_X7_walk : (bz_P mX7_walk).2.2.2.2.2.2.2 = bt_X7_walk := rfl
theorem bp_X8_begin : bz_P mX8_begin = bm_X8_begin := rfl
theorem bT_X8_begin : (bz_P mX8_begin).2.2.2.2.2.2.2 = bt_X8_begin := rfl
theorem bp_X8_play : bz_P mX8_play = bm_X8_play := rfl
theorem bT_X8_play : (bz_P mX8_play).2.2.2.2.2.2.2 = bt_X8_play := rfl
theorem bp_X8_tryAct : bz_P mX8_tryAct = bm_X8_tryAct := rfl
theorem bT_X8_tryAct : (bz_P mX8_tryAct).2.2.2.2.2.2.2 = bt_X8_tryAct := rfl
theorem bp_X8_runText : bz_P mX8_runText = bm_X8_runText := rfl
theorem bT_X8_runText : (bz_P mX8_runText).2.2.2.2.2.2.2 = bt_X8_runText := rfl
theorem bp_X8_runSeason : bz_P mX8_runSeason = bm_X8_runSeason := rfl
theorem bT_X8_runSeason : (bz_P mX8_runSeason).2.2.2.2.2.2.2 = bt_X8_runSeason := rfl
theorem bp_X8_forceToTouch : bz_P mX8_forceToTouch = bm_X8_forceToTouch := rfl
theorem bT_X8_forceToTouch : (bz_P mX8_forceToTouch).2.2.2.2.2.2.2 = bt_X8_forceToTouch := rfl
theorem bp_X10_isCell : bz_P mX10_isCell = bm_X10_isCell := rfl
theorem bT_X10_isCell : (bz_P mX10_isCell).2.2.2.2.2.2.2 = bt_X10_isCell := rfl
theorem bp_X10_isPlace : bz_P mX10_isPlace = bm_X10_isPlace := rfl
theorem bT_X10_isPlace : (bz_P mX10_isPlace).2.2.2.2.2.2.2 = bt_X10_isPlace := rfl
theorem bp_X9_gather : bz_P mX9_gather = bm_X9_gather := rfl
theorem bT_X9_gather : (bz_P mX9_gather).2.2.2.2.2.2.2 = bt_X9_gather := rfl
theorem bp_X9_countLeft : bz_P mX9_countLeft = bm_X9_countLeft := rfl
theorem bT_X9_countLeft : (bz_P mX9_countLeft).2.2.2.2.2.2.2 = bt_X9_countLeft := rfl
theorem bp_J9_max_7cf53 : bz_P mJ9_max_7cf53 = bm_J9_max_7cf53 := rfl
theorem bT_J9_max_7cf53 : (bz_P mJ9_max_7cf53).2.2.2.2.2.2.2 = bt_J9_max_7cf53 := rfl
theorem bp_X9_mostLeftAt : bz_P mX9_mostLeftAt = bm_X9_mostLeftAt := rfl
theorem bT_X9_mostLeftAt : (bz_P mX9_mostLeftAt).2.2.2.2.2.2.2 = bt_X9_mostLeftAt := rfl
theorem bp_X9_chooseStep : bz_P mX9_chooseStep = bm_X9_chooseStep := rfl
theorem bT_X9_chooseStep : (bz_P mX9_chooseStep).2.2.2.2.2.2.2 = bt_X9_chooseStep := rfl
theorem bp_X10_ball : bz_P mX10_ball = bm_X10_ball := rfl
theorem bT_X10_ball : (bz_P mX10_ball).2.2.2.2.2.2.2 = bt_X10_ball := rfl
theorem bp_X10_score : bz_P mX10_score = bm_X10_score := rfl
theorem bT_X10_score : (bz_P mX10_score).2.2.2.2.2.2.2 = bt_X10_score := rfl
theorem bp_X10_say : bz_P mX10_say = bm_X10_say := rfl
theorem bT_X10_say : (bz_P mX10_say).2.2.2.2.2.2.2 = bt_X10_say := rfl
theorem bp_X10_wipe : bz_P mX10_wipe = bm_X10_wipe := rfl
theorem bT_X10_wipe : (bz_P mX10_wipe).2.2.2.2.2.2.2 = bt_X10_wipe := rfl
theorem bp_X10_fault : bz_P mX10_fault = bm_X10_fault := rfl
theorem bT_X10_fault : (bz_P mX10_fault).2.2.2.2.2.2.2 = bt_X10_fault := rfl
theorem bp_X10_tryText : bz_P mX10_tryText = bm_X10_tryText := rfl
theorem bT_X10_tryText : (bz_P mX10_tryText).2.2.2.2.2.2.2 = bt_X10_tryText := rfl
theorem bp_X10_judge : bz_P mX10_judge = bm_X10_judge := rfl
theorem bT_X10_judge : (bz_P mX10_judge).2.2.2.2.2.2.2 = bt_X10_judge := rfl
theorem bp_X10_behind : bz_P mX10_behind = bm_X10_behind := rfl
theorem bT_X10_behind : (bz_P mX10_behind).2.2.2.2.2.2.2 = bt_X10_behind := rfl
theorem bp_X10_table : bz_P mX10_table = bm_X10_table := rfl
theorem bT_X10_table : (bz_P mX10_table).2.2.2.2.2.2.2 = bt_X10_table := rfl
theorem bp_X10_candour : bz_P mX10_candour = bm_X10_candour := rfl
theorem bT_X10_candour : (bz_P mX10_candour).2.2.2.2.2.2.2 = bt_X10_candour := rfl
theorem bp_X10_done : bz_P mX10_done = bm_X10_done := rfl
theorem bT_X10_done : (bz_P mX10_done).2.2.2.2.2.2.2 = bt_X10_done := rfl
theorem bp_X10_hint : bz_P mX10_hint = bm_X10_hint := rfl
theorem bT_X10_hint : (bz_P mX10_hint).2.2.2.2.2.2.2 = bt_X10_hint := rfl
theorem bp_J13_bitCount_95d88 : bz_P mJ13_bitCount_95d88 = bm_J13_bitCount_95d88 := rfl
theorem bT_J13_bitCount_95d88 : (bz_P mJ13_bitCount_95d88).2.2.2.2.2.2.2 = bt_J13_bitCount_95d88 := rfl
theorem bp_X10_alone : bz_P mX10_alone = bm_X10_alone := rfl
theorem bT_X10_alone : (bz_P mX10_alone).2.2.2.2.2.2.2 = bt_X10_alone := rfl
theorem bp_X10_reachOf : bz_P mX10_reachOf = bm_X10_reachOf := rfl
theorem bT_X10_reachOf : (bz_P mX10_reachOf).2.2.2.2.2.2.2 = bt_X10_reachOf := rfl
theorem bp_X10_firstWayInto : bz_P mX10_firstWayInto = bm_X10_firstWayInto := rfl
theorem bT_X10_firstWayInto : (bz_P mX10_firstWayInto).2.2.2.2.2.2.2 = bt_X10_firstWayInto := rfl
theorem bp_X10_withAllThatReach : bz_P mX10_withAllThatReach = bm_X10_withAllThatReach := rfl
theorem bT_X10_withAllThatReach : (bz_P mX10_withAllThatReach).2.2.2.2.2.2.2 = bt_X10_withAllThatReach := rfl
theorem bp_X10_strokes : bz_P mX10_strokes = bm_X10_strokes := rfl
theorem bT_X10_strokes : (bz_P mX10_strokes).2.2.2.2.2.2.2 = bt_X10_strokes := rfl
theorem bp_X10_seen : bz_P mX10_seen = bm_X10_seen := rfl
theorem bT_X10_seen : (bz_P mX10_seen).2.2.2.2.2.2.2 = bt_X10_seen := rfl
theorem bp_X10_forget : bz_P mX10_forget = bm_X10_forget := rfl
theorem bT_X10_forget : (bz_P mX10_forget).2.2.2.2.2.2.2 = bt_X10_forget := rfl
theorem bp_X10_sent : bz_P mX10_sent = bm_X10_sent := rfl
theorem bT_X10_sent : (bz_P mX10_sent).2.2.2.2.2.2.2 = bt_X10_sent := rfl
theorem bp_X10_ask : bz_P mX10_ask = bm_X10_ask := rfl
theorem bT_X10_ask : (bz_P mX10_ask).2.2.2.2.2.2.2 = bt_X10_ask := rfl
theorem bp_X10_chalk : bz_P mX10_chalk = bm_X10_chalk := rfl
theorem bT_X10_chalk : (bz_P mX10_chalk).2.2.2.2.2.2.2 = bt_X10_chalk := rfl
theorem bp_J9_max_f86c9 : bz_P mJ9_max_f86c9 = bm_J9_max_f86c9 := rfl
theorem bT_J9_max_f86c9 : (bz_P mJ9_max_f86c9).2.2.2.2.2.2.2 = bt_J9_max_f86c9 := rfl
theorem bp_X10_match : bz_P mX10_match = bm_X10_match := rfl
theorem bT_X10_match : (bz_P mX10_match).2.2.2.2.2.2.2 = bt_X10_match := rfl
theorem bp_X10_season : bz_P mX10_season = bm_X10_season := rfl
theorem bT_X10_season : (bz_P mX10_season).2.2.2.2.2.2.2 = bt_X10_season := rfl
theorem bp_X10_image : bz_P mX10_image = bm_X10_image := rfl
theorem bT_X10_image : (bz_P mX10_image).2.2.2.2.2.2.2 = bt_X10_image := rfl
theorem bp_X10_restore : bz_P mX10_restore = bm_X10_restore := rfl
theorem bT_X10_restore : (bz_P mX10_restore).2.2.2.2.2.2.2 = bt_X10_restore := rfl
theorem bp_X10_told : bz_P mX10_told = bm_X10_told := rfl
theorem bT_X10_told : (bz_P mX10_told).2.2.2.2.2.2.2 = bt_X10_told := rfl
theorem bp_X11_in : bz_P mX11_in = bm_X11_in := rfl
theorem bT_X11_in : (bz_P mX11_in).2.2.2.2.2.2.2 = bt_X11_in := rfl
theorem bp_X11_isBall : bz_P mX11_isBall = bm_X11_isBall := rfl
theorem bT_X11_isBall : (bz_P mX11_isBall).2.2.2.2.2.2.2 = bt_X11_isBall := rfl
theorem bp_X11_isCell : bz_P mX11_isCell = bm_X11_isCell := rfl
theorem bT_X11_isCell : (bz_P mX11_isCell).2.2.2.2.2.2.2 = bt_X11_isCell := rfl
theorem bp_X11_isPocket : bz_P mX11_isPocket = bm_X11_isPocket := rfl
theorem bT_X11_isPocket : (bz_P mX11_isPocket).2.2.2.2.2.2.2 = bt_X11_isPocket := rfl
theorem bp_X11_isPlace : bz_P mX11_isPlace = bm_X11_isPlace := rfl
theorem bT_X11_isPlace : (bz_P mX11_isPlace).2.2.2.2.2.2.2 = bt_X11_isPlace := rfl
theorem bp_X11_home : bz_P mX11_home = bm_X11_home := rfl
theorem bT_X11_home : (bz_P mX11_home).2.2.2.2.2.2.2 = bt_X11_home := rfl
theorem bp_X11_downwards : bz_P mX11_downwards = bm_X11_downwards := rfl
theorem bT_X11_downwards : (bz_P mX11_downwards).2.2.2.2.2.2.2 = bt_X11_downwards := rfl
theorem bp_X11_across : bz_P mX11_across = bm_X11_across := rfl
theorem bT_X11_across : (bz_P mX11_across).2.2.2.2.2.2.2 = bt_X11_across := rfl
theorem bp_X11_turned : bz_P mX11_turned = bm_X11_turned := rfl
theorem bT_X11_turned : (bz_P mX11_turned).2.2.2.2.2.2.2 = bt_X11_turned := rfl
theorem bp_X11_ahead : bz_P mX11_ahead = bm_X11_ahead := rfl
theorem bT_X11_ahead : (bz_P mX11_ahead).2.2.2.2.2.2.2 = bt_X11_ahead := rfl
theorem bp_X11_ballOn : bz_P mX11_ballOn = bm_X11_ballOn := rfl
theorem bT_X11_ballOn : (bz_P mX11_ballOn).2.2.2.2.2.2.2 = bt_X11_ballOn := rfl
theorem bp_X11_ball : bz_P mX11_ball = bm_X11_ball := rfl
theorem bT_X11_ball : (bz_P mX11_ball).2.2.2.2.2.2.2 = bt_X11_ball := rfl
theorem bp_X11_score : bz_P mX11_score = bm_X11_score := rfl
theorem bT_X11_score : (bz_P mX11_score).2.2.2.2.2.2.2 = bt_X11_score := rfl
theorem bp_X11_say : bz_P mX11_say = bm_X11_say := rfl
theorem bT_X11_say : (bz_P mX11_say).2.2.2.2.2.2.2 = bt_X11_say := rfl
theorem bp_X11_wipe : bz_P mX11_wipe = bm_X11_wipe := rfl
theorem bT_X11_wipe : (bz_P mX11_wipe).2.2.2.2.2.2.2 = bt_X11_wipe := rfl
theorem bp_X11_close : bz_P mX11_close = bm_X11_close := rfl
theorem bT_X11_close : (bz_P mX11_close).2.2.2.2.2.2.2 = bt_X11_close := rfl
theorem bp_X11_begin : bz_P mX11_begin = bm_X11_begin := rfl
theorem bT_X11_begin : (bz_P mX11_begin).2.2.2.2.2.2.2 = bt_X11_begin := rfl
theorem bp_X11_deed : bz_P mX11_deed = bm_X11_deed := rfl
theorem bT_X11_deed : (bz_P mX11_deed).2.2.2.2.2.2.2 = bt_X11_deed := rfl
theorem bp_X11_force : bz_P mX11_force = bm_X11_force := rfl
theorem bT_X11_force : (bz_P mX11_force).2.2.2.2.2.2.2 = bt_X11_force := rfl
theorem bp_X11_readOn : bz_P mX11_readOn = bm_X11_readOn := rfl
theorem bT_X11_readOn : (bz_P mX11_readOn).2.2.2.2.2.2.2 = bt_X11_readOn := rfl
theorem bp_X11_fault : bz_P mX11_fault = bm_X11_fault := rfl
theorem bT_X11_fault : (bz_P mX11_fault).2.2.2.2.2.2.2 = bt_X11_fault := rfl
theorem bp_X11_touch : bz_P mX11_touch = bm_X11_touch := rfl
theorem bT_X11_touch : (bz_P mX11_touch).2.2.2.2.2.2.2 = bt_X11_touch := rfl
theorem bp_X11_step : bz_P mX11_step = bm_X11_step := rfl
theorem bT_X11_step : (bz_P mX11_step).2.2.2.2.2.2.2 = bt_X11_step := rfl
theorem bp_X11_send : bz_P mX11_send = bm_X11_send := rfl
theorem bT_X11_send : (bz_P mX11_send).2.2.2.2.2.2.2 = bt_X11_send := rfl
theorem bp_X11_stroke : bz_P mX11_stroke = bm_X11_stroke := rfl
theorem bT_X11_stroke : (bz_P mX11_stroke).2.2.2.2.2.2.2 = bt_X11_stroke := rfl
theorem bp_X11_columnOf : bz_P mX11_columnOf = bm_X11_columnOf := rfl
theorem bT_X11_columnOf : (bz_P mX11_columnOf).2.2.2.2.2.2.2 = bt_X11_columnOf := rfl
theorem bp_X11_drift : bz_P mX11_drift = bm_X11_drift := rfl
theorem bT_X11_drift : (bz_P mX11_drift).2.2.2.2.2.2.2 = bt_X11_drift := rfl
theorem bp_X11_nap : bz_P mX11_nap = bm_X11_nap := rfl
theorem bT_X11_nap : (bz_P mX11_nap).2.2.2.2.2.2.2 = bt_X11_nap := rfl
theorem bp_X11_whyNot : bz_P mX11_whyNot = bm_X11_whyNot := rfl
theorem bT_X11_whyNot : (bz_P mX11_whyNot).2.2.2.2.2.2.2 = bt_X11_whyNot := rfl
theorem bp_X11_happen : bz_P mX11_happen = bm_X11_happen := rfl
theorem bT_X11_happen : (bz_P mX11_happen).2.2.2.2.2.2.2 = bt_X11_happen := rfl
theorem bp_X11_keepNow : bz_P mX11_keepNow = bm_X11_keepNow := rfl
theorem bT_X11_keepNow : (bz_P mX11_keepNow).2.2.2.2.2.2.2 = bt_X11_keepNow := rfl
theorem bp_X11_back : bz_P mX11_back = bm_X11_back := rfl
theorem bT_X11_back : (bz_P mX11_back).2.2.2.2.2.2.2 = bt_X11_back := rfl
theorem bp_X11_goCrises : bz_P mX11_goCrises = bm_X11_goCrises := rfl
theorem bT_X11_goCrises : (bz_P mX11_goCrises).2.2.2.2.2.2.2 = bt_X11_goCrises := rfl
theorem bp_X11_refusal : bz_P mX11_refusal = bm_X11_refusal := rfl
theorem bT_X11_refusal : (bz_P mX11_refusal).2.2.2.2.2.2.2 = bt_X11_refusal := rfl
theorem bp_X11_judge : bz_P mX11_judge = bm_X11_judge := rfl
theorem bT_X11_judge : (bz_P mX11_judge).2.2.2.2.2.2.2 = bt_X11_judge := rfl
theorem bp_X11_behind : bz_P mX11_behind = bm_X11_behind := rfl
theorem bT_X11_behind : (bz_P mX11_behind).2.2.2.2.2.2.2 = bt_X11_behind := rfl
theorem bp_X11_downMany : bz_P mX11_downMany = bm_X11_downMany := rfl
theorem bT_X11_downMany : (bz_P mX11_downMany).2.2.2.2.2.2.2 = bt_X11_downMany := rfl
theorem bp_X11_table : bz_P mX11_table = bm_X11_table := rfl
theorem bT_X11_table : (bz_P mX11_table).2.2.2.2.2.2.2 = bt_X11_table := rfl
theorem bp_X11_candour : bz_P mX11_candour = bm_X11_candour := rfl
theorem bT_X11_candour : (bz_P mX11_candour).2.2.2.2.2.2.2 = bt_X11_candour := rfl
theorem bp_X11_done : bz_P mX11_done = bm_X11_done := rfl
theorem bT_X11_done : (bz_P mX11_done).2.2.2.2.2.2.2 = bt_X11_done := rfl
theorem bp_X11_stepsBy : bz_P mX11_stepsBy = bm_X11_stepsBy := rfl
theorem bT_X11_stepsBy : (bz_P mX11_stepsBy).2.2.2.2.2.2.2 = bt_X11_stepsBy := rfl
theorem bp_X11_hint : bz_P mX11_hint = bm_X11_hint := rfl
theorem bT_X11_hint : (bz_P mX11_hint).2.2.2.2.2.2.2 = bt_X11_hint := rfl
theorem bp_X11_next : bz_P mX11_next = bm_X11_next := rfl
theorem bT_X11_next : (bz_P mX11_next).2.2.2.2.2.2.2 = bt_X11_next := rfl
theorem bp_X11_behindSteps : bz_P mX11_behindSteps = bm_X11_behindSteps := rfl
theorem bT_X11_behindSteps : (bz_P mX11_behindSteps).2.2.2.2.2.2.2 = bt_X11_behindSteps := rfl
theorem bp_X11_metMany : bz_P mX11_metMany = bm_X11_metMany := rfl
theorem bT_X11_metMany : (bz_P mX11_metMany).2.2.2.2.2.2.2 = bt_X11_metMany := rfl
theorem bp_X11_stepsBack : bz_P mX11_stepsBack = bm_X11_stepsBack := rfl
theorem bT_X11_stepsBack : (bz_P mX11_stepsBack).2.2.2.2.2.2.2 = bt_X11_stepsBack := rfl
theorem bp_X11_alone : bz_P mX11_alone = bm_X11_alone := rfl
theorem bT_X11_alone : (bz_P mX11_alone).2.2.2.2.2.2.2 = bt_X11_alone := rfl
theorem bp_X11_leadsTo : bz_P mX11_leadsTo = bm_X11_leadsTo := rfl
theorem bT_X11_leadsTo : (bz_P mX11_leadsTo).2.2.2.2.2.2.2 = bt_X11_leadsTo := rfl
theorem bp_X11_wayTo : bz_P mX11_wayTo = bm_X11_wayTo := rfl
theorem bT_X11_wayTo : (bz_P mX11_wayTo).2.2.2.2.2.2.2 = bt_X11_wayTo := rfl
theorem bp_X11_findFar : bz_P mX11_findFar = bm_X11_findFar := rfl
theorem bT_X11_findFar : (bz_P mX11_findFar).2.2.2.2.2.2.2 = bt_X11_findFar := rfl
theorem bp_X11_strokes : bz_P mX11_strokes = bm_X11_strokes := rfl
theorem bT_X11_strokes : (bz_P mX11_strokes).2.2.2.2.2.2.2 = bt_X11_strokes := rfl
theorem bp_X11_seen : bz_P mX11_seen = bm_X11_seen := rfl
theorem bT_X11_seen : (bz_P mX11_seen).2.2.2.2.2.2.2 = bt_X11_seen := rfl
theorem bp_X11_forget : bz_P mX11_forget = bm_X11_forget := rfl
theorem bT_X11_forget : (bz_P mX11_forget).2.2.2.2.2.2.2 = bt_X11_forget := rfl
theorem bp_X11_isFit : bz_P mX11_isFit = bm_X11_isFit := rfl
theorem bT_X11_isFit : (bz_P mX11_isFit).2.2.2.2.2.2.2 = bt_X11_isFit := rfl
theorem bp_X11_findFits : bz_P mX11_findFits = bm_X11_findFits := rfl
theorem bT_X11_findFits : (bz_P mX11_findFits).2.2.2.2.2.2.2 = bt_X11_findFits := rfl
theorem bp_X11_sent : bz_P mX11_sent = bm_X11_sent := rfl
theorem bT_X11_sent : (bz_P mX11_sent).2.2.2.2.2.2.2 = bt_X11_sent := rfl
theorem bp_X11_mostNow : bz_P mX11_mostNow = bm_X11_mostNow := rfl
theorem bT_X11_mostNow : (bz_P mX11_mostNow).2.2.2.2.2.2.2 = bt_X11_mostNow := rfl
theorem bp_X11_ask : bz_P mX11_ask = bm_X11_ask := rfl
theorem bT_X11_ask : (bz_P mX11_ask).2.2.2.2.2.2.2 = bt_X11_ask := rfl
theorem bp_X11_digit : bz_P mX11_digit = bm_X11_digit := rfl
theorem bT_X11_digit : (bz_P mX11_digit).2.2.2.2.2.2.2 = bt_X11_digit := rfl
theorem bp_X11_tenTo : bz_P mX11_tenTo = bm_X11_tenTo := rfl
theorem bT_X11_tenTo : (bz_P mX11_tenTo).2.2.2.2.2.2.2 = bt_X11_tenTo := rfl
theorem bp_X11_leastTake : bz_P mX11_leastTake = bm_X11_leastTake := rfl
theorem bT_X11_leastTake : (bz_P mX11_leastTake).2.2.2.2.2.2.2 = bt_X11_leastTake := rfl
theorem bp_X11_chalk : bz_P mX11_chalk = bm_X11_chalk := rfl
theorem bT_X11_chalk : (bz_P mX11_chalk).2.2.2.2.2.2.2 = bt_X11_chalk := rfl
theorem bp_X11_lowest : bz_P mX11_lowest = bm_X11_lowest := rfl
theorem bT_X11_lowest : (bz_P mX11_lowest).2.2.2.2.2.2.2 = bt_X11_lowest := rfl
theorem bp_X11_power : bz_P mX11_power = bm_X11_power := rfl
theorem bT_X11_power : (bz_P mX11_power).2.2.2.2.2.2.2 = bt_X11_power := rfl
theorem bp_X11_findChance : bz_P mX11_findChance = bm_X11_findChance := rfl
theorem bT_X11_findChance : (bz_P mX11_findChance).2.2.2.2.2.2.2 = bt_X11_findChance := rfl
theorem bp_X11_match : bz_P mX11_match = bm_X11_match := rfl
theorem bT_X11_match : (bz_P mX11_match).2.2.2.2.2.2.2 = bt_X11_match := rfl
theorem bp_X11_actBy : bz_P mX11_actBy = bm_X11_actBy := rfl
theorem bT_X11_actBy : (bz_P mX11_actBy).2.2.2.2.2.2.2 = bt_X11_actBy := rfl
theorem bp_X11_season : bz_P mX11_season = bm_X11_season := rfl
theorem bT_X11_season : (bz_P mX11_season).2.2.2.2.2.2.2 = bt_X11_season := rfl
theorem bp_X11_pass : bz_P mX11_pass = bm_X11_pass := rfl
theorem bT_X11_pass : (bz_P mX11_pass).2.2.2.2.2.2.2 = bt_X11_pass := rfl
theorem bp_X11_passRow : bz_P mX11_passRow = bm_X11_passRow := rfl
theorem bT_X11_passRow : (bz_P mX11_passRow).2.2.2.2.2.2.2 = bt_X11_passRow := rfl
theorem bp_X11_passAll : bz_P mX11_passAll = bm_X11_passAll := rfl
theorem bT_X11_passAll : (bz_P mX11_passAll).2.2.2.2.2.2.2 = bt_X11_passAll := rfl
theorem bp_X11_image : bz_P mX11_image = bm_X11_image := rfl
theorem bT_X11_image : (bz_P mX11_image).2.2.2.2.2.2.2 = bt_X11_image := rfl
theorem bp_X11_restore : bz_P mX11_restore = bm_X11_restore := rfl
theorem bT_X11_restore : (bz_P mX11_restore).2.2.2.2.2.2.2 = bt_X11_restore := rfl
theorem bp_X11_told : bz_P mX11_told = bm_X11_told := rfl
theorem bT_X11_told : (bz_P mX11_told).2.2.2.2.2.2.2 = bt_X11_told := rfl
theorem bp_L_law : bz_P mL_law = bm_L_law := rfl
theorem bT_L_law : (bz_P mL_law).2.2.2.2.2.2.2 = bt_L_law := rfl
end
section
/-! TOOLS for runs of the small machine -/
def bz_b (p : Bool) : Int32 := bif p then 1 else 0
theorem bz_b0 {p : Bool} (h : bz_b p = 0) : p = false := by cases p with
  | true => exact absurd h (by decide)
  | false => rfl
theorem bz_b1 {p : Bool} (h : ¬ bz_b p = 0) : p = true := by cases p with
  | true => rfl
  | false => exact absurd rfl h
theorem bz_b01 (p : Bool) : bz_b p = 0 ∨ bz_b p = 1 := by cases p <;> simp [bz_b]
/-- answers: an int, a long, none, with a store -/
def bz_pi (r : Int32) (σ : bz_S) : bz_Q := fun v σ' => v = some (.int r) ∧ σ' = σ
def bz_pl (r : Int64) (σ : bz_S) : bz_Q := fun v σ' => v = some (.long r) ∧ σ' = σ
def bz_pv (σ : bz_S) : bz_Q := fun v σ' => v = none ∧ σ' = σ
section TL
variable {X : bz_X} {k : Nat} {Q : bz_Q} {T : List bz_E} {pc pc' : Nat} {L : List (Option Value)} {st rest : List Value} {σ σ1 : bz_S} {j n vk : Nat}
theorem bz_wci (hT : (bz_P k).2.2.2.2.2.2.2 = T) (as : List Value) {r : Int32} (hl : bz_lk T pc = some (.inr (.inl (j, n, vk)))) (hn : as.length = n) (hm : (bz_in0 as).length ≤ (bz_P j).2.2.2.1) (hst : st = as.reverse ++ rest) (hr : bz_cat rest ≤ 8) (hv : bz_rc vk as = true) (hc : bz_C bz_P X j as σ (bz_pi r σ1)) (hp : pc + 3 = pc') (kk : bz_wp bz_P X k Q (pc', L, .int r :: rest, σ1)) : bz_wp bz_P X k Q (pc, L, st, σ) := by
  subst hp
  exact bz_wpc hT as hl hn hm hst hr hv hc (fun v σ' hq => by obtain ⟨rfl, rfl⟩ := hq; exact kk)
theorem bz_wcl (hT : (bz_P k).2.2.2.2.2.2.2 = T) (as : List Value) {r : Int64} (hl : bz_lk T pc = some (.inr (.inl (j, n, vk)))) (hn : as.length = n) (hm : (bz_in0 as).length ≤ (bz_P j).2.2.2.1) (hst : st = as.reverse ++ rest) (hr : bz_cat rest ≤ 8) (hv : bz_rc vk as = true) (hc : bz_C bz_P X j as σ (bz_pl r σ1)) (hp : pc + 3 = pc') (kk : bz_wp bz_P X k Q (pc', L, .long r :: rest, σ1)) : bz_wp bz_P X k Q (pc, L, st, σ) := by
  subst hp
  exact bz_wpc hT as hl hn hm hst hr hv hc (fun v σ' hq => by obtain ⟨rfl, rfl⟩ := hq; exact kk)
theorem bz_wcv (hT : (bz_P k).2.2.2.2.2.2.2 = T) (as : List Value) (hl : bz_lk T pc = some (.inr (.inl (j, n, vk)))) (hn : as.length = n) (hm : (bz_in0 as).length ≤ (bz_P j).2.2.2.1) (hst : st = as.reverse ++ rest) (hr : bz_cat rest ≤ 8) (hv : bz_rc vk as = true) (hc : bz_C bz_P X j as σ (bz_pv σ1)) (hp : pc + 3 = pc') (kk : bz_wp bz_P X k Q (pc', L, rest, σ1)) : bz_wp bz_P X k Q (pc, L, st, σ) := by
  subst hp
  exact bz_wpc hT as hl hn hm hst hr hv hc (fun v σ' hq => by obtain ⟨rfl, rfl⟩ := hq; exact kk)
/-- a call of which the end is only described -/
theorem bz_wcq (hT : (bz_P k).2.2.2.2.2.2.2 = T) (as : List Value) {Qc : bz_Q} (hl : bz_lk T pc = some (.inr (.inl (j, n, vk)))) (hn : as.length = n) (hm : (bz_in0 as).length ≤ (bz_P j).2.2.2.1) (hst : st = as.reverse ++ rest) (hr : bz_cat rest ≤ 8) (hv : bz_rc vk as = true) (hc : bz_C bz_P X j as σ Qc) (hp : pc + 3 = pc') (kk : ∀ v σ', Qc v σ' → bz_wp bz_P X k Q (pc', L, v.toList ++ rest, σ')) : bz_wp bz_P X k Q (pc, L, st, σ) := by
  subst hp
  exact bz_wpc hT as hl hn hm hst hr hv hc kk
end TL
theorem bz_lit {i : Int32} {n : Nat} (h : (!decide (i < 0) && decide (i.toNatClampNeg < n)) = true) : vp_in i n := by
  simp only [Bool.and_eq_true, Bool.not_eq_true', decide_eq_false_iff_not, decide_eq_true_eq] at h
  exact fun z => z.elim h.1 (fun q => absurd h.2 (Nat.not_lt.mpr q))
def f_pocket (c : Int32) : Bool := (decide (c / 9 = 0) || decide (c / 9 = 4)) && decide (c % 9 % 4 = 0)
set_option maxRecDepth 100000 in
theorem s_X10_isPocket {X : bz_X} (σ : bz_S) (c : Int32) : bz_C bz_P X mX10_isPocket [.int c] σ (bz_pi (bz_b (f_pocket c)) σ) := by
  show bz_wp bz_P X mX10_isPocket _ (0, [some (.int c), none], [], σ)
  refine bz_wpb bT_X10_isPocket 6 (b1 := (14, [some (.int c), some (.int (c / 9))], [], σ)) (b2 := (9, [some (.int c), some (.int (c / 9))], [], σ)) (C := (c / 9) = 0) (G := ¬ (9 : Int32) = 0 ∧ True) rfl ⟨(by decide), trivial⟩ (fun h1 => ?_) (fun h1 => ?_)
  · skip
    refine bz_wpb bT_X10_isPocket 6 (b1 := (27, [some (.int c), some (.int (c / 9))], [], σ)) (b2 := (23, [some (.int c), some (.int (c / 9))], [], σ)) (C := ¬ ((c % 9) % 4) = 0) (G := ¬ (9 : Int32) = 0 ∧ ¬ (4 : Int32) = 0 ∧ True) rfl ⟨(by decide), (by decide), trivial⟩ (fun h2 => ?_) (fun h2 => ?_)
    · skip
      refine bz_wpn bT_X10_isPocket 1 (b := (28, [some (.int c), some (.int (c / 9))], [.int 0], σ)) (G := True) rfl trivial ?_
      refine bz_wpr bT_X10_isPocket rfl rfl (show (0 : Int32) = 0 ∨ (0 : Int32) = 1 by decide) ?_
      refine ⟨congrArg (fun z => some (Value.int z)) ?_, rfl⟩
      simp_all [f_pocket, bz_b]
    · skip
      refine bz_wpn bT_X10_isPocket 2 (b := (28, [some (.int c), some (.int (c / 9))], [.int 1], σ)) (G := True) rfl trivial ?_
      refine bz_wpr bT_X10_isPocket rfl rfl (show (1 : Int32) = 0 ∨ (1 : Int32) = 1 by decide) ?_
      refine ⟨congrArg (fun z => some (Value.int z)) ?_, rfl⟩
      simp_all [f_pocket, bz_b]
  · skip
    refine bz_wpb bT_X10_isPocket 3 (b1 := (27, [some (.int c), some (.int (c / 9))], [], σ)) (b2 := (14, [some (.int c), some (.int (c / 9))], [], σ)) (C := ¬ (c / 9) = 4) (G := True) rfl trivial (fun h3 => ?_) (fun h3 => ?_)
    · skip
      refine bz_wpn bT_X10_isPocket 1 (b := (28, [some (.int c), some (.int (c / 9))], [.int 0], σ)) (G := True) rfl trivial ?_
      refine bz_wpr bT_X10_isPocket rfl rfl (show (0 : Int32) = 0 ∨ (0 : Int32) = 1 by decide) ?_
      refine ⟨congrArg (fun z => some (Value.int z)) ?_, rfl⟩
      simp_all [f_pocket, bz_b]
    · skip
      refine bz_wpb bT_X10_isPocket 6 (b1 := (27, [some (.int c), some (.int (c / 9))], [], σ)) (b2 := (23, [some (.int c), some (.int (c / 9))], [], σ)) (C := ¬ ((c % 9) % 4) = 0) (G := ¬ (9 : Int32) = 0 ∧ ¬ (4 : Int32) = 0 ∧ True) rfl ⟨(by decide), (by decide), trivial⟩ (fun h4 => ?_) (fun h4 => ?_)
      · skip
        refine bz_wpn bT_X10_isPocket 1 (b := (28, [some (.int c), some (.int (c / 9))], [.int 0], σ)) (G := True) rfl trivial ?_
        refine bz_wpr bT_X10_isPocket rfl rfl (show (0 : Int32) = 0 ∨ (0 : Int32) = 1 by decide) ?_
        refine ⟨congrArg (fun z => some (Value.int z)) ?_, rfl⟩
        simp_all [f_pocket, bz_b]
      · skip
        refine bz_wpn bT_X10_isPocket 2 (b := (28, [some (.int c), some (.int (c / 9))], [.int 1], σ)) (G := True) rfl trivial ?_
        refine bz_wpr bT_X10_isPocket rfl rfl (show (1 : Int32) = 0 ∨ (1 : Int32) = 1 by decide) ?_
        refine ⟨congrArg (fun z => some (Value.int z)) ?_, rfl⟩
        simp_all [f_pocket, bz_b]

set_option maxRecDepth 100000 in
theorem s_X11_isPocket {X : bz_X} (σ : bz_S) (c : Int32) : bz_C bz_P X mX11_isPocket [.int c] σ (bz_pi (bz_b (f_pocket c)) σ) := by
  show bz_wp bz_P X mX11_isPocket _ (0, [some (.int c)], [], σ)
  refine bz_wpb bT_X11_isPocket 4 (b1 := (15, [some (.int c)], [], σ)) (b2 := (7, [some (.int c)], [], σ)) (C := (c / 9) = 0) (G := ¬ (9 : Int32) = 0 ∧ True) rfl ⟨(by decide), trivial⟩ (fun h1 => ?_) (fun h1 => ?_)
  · skip
    refine bz_wpb bT_X11_isPocket 6 (b1 := (28, [some (.int c)], [], σ)) (b2 := (24, [some (.int c)], [], σ)) (C := ¬ ((c % 9) % 4) = 0) (G := ¬ (9 : Int32) = 0 ∧ ¬ (4 : Int32) = 0 ∧ True) rfl ⟨(by decide), (by decide), trivial⟩ (fun h2 => ?_) (fun h2 => ?_)
    · skip
      refine bz_wpn bT_X11_isPocket 1 (b := (29, [some (.int c)], [.int 0], σ)) (G := True) rfl trivial ?_
      refine bz_wpr bT_X11_isPocket rfl rfl (show (0 : Int32) = 0 ∨ (0 : Int32) = 1 by decide) ?_
      refine ⟨congrArg (fun z => some (Value.int z)) ?_, rfl⟩
      simp_all [f_pocket, bz_b]
    · skip
      refine bz_wpn bT_X11_isPocket 2 (b := (29, [some (.int c)], [.int 1], σ)) (G := True) rfl trivial ?_
      refine bz_wpr bT_X11_isPocket rfl rfl (show (1 : Int32) = 0 ∨ (1 : Int32) = 1 by decide) ?_
      refine ⟨congrArg (fun z => some (Value.int z)) ?_, rfl⟩
      simp_all [f_pocket, bz_b]
  · skip
    refine bz_wpb bT_X11_isPocket 5 (b1 := (28, [some (.int c)], [], σ)) (b2 := (15, [some (.int c)], [], σ)) (C := ¬ (c / 9) = 4) (G := ¬ (9 : Int32) = 0 ∧ True) rfl ⟨(by decide), trivial⟩ (fun h3 => ?_) (fun h3 => ?_)
    · skip
      refine bz_wpn bT_X11_isPocket 1 (b := (29, [some (.int c)], [.int 0], σ)) (G := True) rfl trivial ?_
      refine bz_wpr bT_X11_isPocket rfl rfl (show (0 : Int32) = 0 ∨ (0 : Int32) = 1 by decide) ?_
      refine ⟨congrArg (fun z => some (Value.int z)) ?_, rfl⟩
      simp_all [f_pocket, bz_b]
    · skip
      refine bz_wpb bT_X11_isPocket 6 (b1 := (28, [some (.int c)], [], σ)) (b2 := (24, [some (.int c)], [], σ)) (C := ¬ ((c % 9) % 4) = 0) (G := ¬ (9 : Int32) = 0 ∧ ¬ (4 : Int32) = 0 ∧ True) rfl ⟨(by decide), (by decide), trivial⟩ (fun h4 => ?_) (fun h4 => ?_)
      · skip
        refine bz_wpn bT_X11_isPocket 1 (b := (29, [some (.int c)], [.int 0], σ)) (G := True) rfl trivial ?_
        refine bz_wpr bT_X11_isPocket rfl rfl (show (0 : Int32) = 0 ∨ (0 : Int32) = 1 by decide) ?_
        refine ⟨congrArg (fun z => some (Value.int z)) ?_, rfl⟩
        simp_all [f_pocket, bz_b]
      · skip
        refine bz_wpn bT_X11_isPocket 2 (b := (29, [some (.int c)], [.int 1], σ)) (G := True) rfl trivial ?_
        refine bz_wpr bT_X11_isPocket rfl rfl (show (1 : Int32) = 0 ∨ (1 : Int32) = 1 by decide) ?_
        refine ⟨congrArg (fun z => some (Value.int z)) ?_, rfl⟩
        simp_all [f_pocket, bz_b]
end
