section
-- ===== PART A: goes FIRST, ahead of the names: the tables' words, and 'selects' of the private methods out of them =====
/-- a private method of a class that the tables say can be made, by its rows of tables_1 -/
def lw_okq (q : MethodName × Nat) : Prop := (q.1.cls ≠ "java/lang/invoke/MethodHandle" ∧ q.1.cls ≠ "java/lang/invoke/VarHandle") ∧ Cond.instantiable q.1.cls q.2 ∈ tables_1 ∧ Cond.privateMethod q.1 ∈ tables_1 ∧ Cond.instanceMethod q.1 ∈ tables_1
theorem lw_p0 : lw_okq (⟨"LocksBySong", "tellOf", "(II)I"⟩, 15) := ⟨⟨by decide +kernel, by decide +kernel⟩, List.mem_of_getElem? (i := 27) (by decide +kernel), List.mem_of_getElem? (i := 394) (by decide +kernel), List.mem_of_getElem? (i := 395) (by decide +kernel)⟩
theorem lw_p1 : lw_okq (⟨"LocksBySong", "readLines", "(I)I"⟩, 15) := ⟨⟨by decide +kernel, by decide +kernel⟩, List.mem_of_getElem? (i := 27) (by decide +kernel), List.mem_of_getElem? (i := 409) (by decide +kernel), List.mem_of_getElem? (i := 410) (by decide +kernel)⟩
theorem lw_p2 : lw_okq (⟨"LocksBySong$Canal", "readLock", "(ILLocksBySong$Script;)Z"⟩, 11) := ⟨⟨by decide +kernel, by decide +kernel⟩, List.mem_of_getElem? (i := 69) (by decide +kernel), List.mem_of_getElem? (i := 425) (by decide +kernel), List.mem_of_getElem? (i := 426) (by decide +kernel)⟩
theorem lw_p3 : lw_okq (⟨"LocksBySong$Canal", "readSinger", "(ILLocksBySong$Script;LLocksBySong$Moment;)Z"⟩, 11) := ⟨⟨by decide +kernel, by decide +kernel⟩, List.mem_of_getElem? (i := 69) (by decide +kernel), List.mem_of_getElem? (i := 441) (by decide +kernel), List.mem_of_getElem? (i := 442) (by decide +kernel)⟩
theorem lw_p4 : lw_okq (⟨"LocksBySong$Canal", "readPlace", "(LLocksBySong$Script;)I"⟩, 11) := ⟨⟨by decide +kernel, by decide +kernel⟩, List.mem_of_getElem? (i := 69) (by decide +kernel), List.mem_of_getElem? (i := 445) (by decide +kernel), List.mem_of_getElem? (i := 446) (by decide +kernel)⟩
theorem lw_p5 : lw_okq (⟨"LocksBySong$Canal", "readBarge", "(ILLocksBySong$Script;LLocksBySong$Moment;)Z"⟩, 11) := ⟨⟨by decide +kernel, by decide +kernel⟩, List.mem_of_getElem? (i := 69) (by decide +kernel), List.mem_of_getElem? (i := 454) (by decide +kernel), List.mem_of_getElem? (i := 455) (by decide +kernel)⟩
theorem lw_p6 : lw_okq (⟨"LocksBySong$Rule", "comparison", "(LLocksBySong$Script;I)Z"⟩, 6) := ⟨⟨by decide +kernel, by decide +kernel⟩, List.mem_of_getElem? (i := 75) (by decide +kernel), List.mem_of_getElem? (i := 493) (by decide +kernel), List.mem_of_getElem? (i := 494) (by decide +kernel)⟩
theorem lw_p7 : lw_okq (⟨"LocksBySong$Rule", "sum", "(LLocksBySong$Script;I)Z"⟩, 6) := ⟨⟨by decide +kernel, by decide +kernel⟩, List.mem_of_getElem? (i := 75) (by decide +kernel), List.mem_of_getElem? (i := 497) (by decide +kernel), List.mem_of_getElem? (i := 498) (by decide +kernel)⟩
theorem lw_p8 : lw_okq (⟨"LocksBySong$Rule", "product", "(LLocksBySong$Script;I)Z"⟩, 6) := ⟨⟨by decide +kernel, by decide +kernel⟩, List.mem_of_getElem? (i := 75) (by decide +kernel), List.mem_of_getElem? (i := 501) (by decide +kernel), List.mem_of_getElem? (i := 502) (by decide +kernel)⟩
theorem lw_p9 : lw_okq (⟨"LocksBySong$Rule", "negated", "(LLocksBySong$Script;I)Z"⟩, 6) := ⟨⟨by decide +kernel, by decide +kernel⟩, List.mem_of_getElem? (i := 75) (by decide +kernel), List.mem_of_getElem? (i := 505) (by decide +kernel), List.mem_of_getElem? (i := 506) (by decide +kernel)⟩
theorem lw_p10 : lw_okq (⟨"LocksBySong$Rule", "thing", "(LLocksBySong$Script;I)Z"⟩, 6) := ⟨⟨by decide +kernel, by decide +kernel⟩, List.mem_of_getElem? (i := 75) (by decide +kernel), List.mem_of_getElem? (i := 510) (by decide +kernel), List.mem_of_getElem? (i := 511) (by decide +kernel)⟩
theorem lw_p11 : lw_okq (⟨"LocksBySong$Rule", "emit", "(I)Z"⟩, 6) := ⟨⟨by decide +kernel, by decide +kernel⟩, List.mem_of_getElem? (i := 75) (by decide +kernel), List.mem_of_getElem? (i := 515) (by decide +kernel), List.mem_of_getElem? (i := 516) (by decide +kernel)⟩
theorem lw_p12 : lw_okq (⟨"LocksBySong", "takeOn", "(II)I"⟩, 15) := ⟨⟨by decide +kernel, by decide +kernel⟩, List.mem_of_getElem? (i := 27) (by decide +kernel), List.mem_of_getElem? (i := 638) (by decide +kernel), List.mem_of_getElem? (i := 639) (by decide +kernel)⟩
theorem lw_p13 : lw_okq (⟨"LocksBySong", "remember", "(I)I"⟩, 15) := ⟨⟨by decide +kernel, by decide +kernel⟩, List.mem_of_getElem? (i := 27) (by decide +kernel), List.mem_of_getElem? (i := 650) (by decide +kernel), List.mem_of_getElem? (i := 651) (by decide +kernel)⟩
theorem lw_p14 : lw_okq (⟨"LocksBySong", "letGo", "(I)I"⟩, 15) := ⟨⟨by decide +kernel, by decide +kernel⟩, List.mem_of_getElem? (i := 27) (by decide +kernel), List.mem_of_getElem? (i := 663) (by decide +kernel), List.mem_of_getElem? (i := 664) (by decide +kernel)⟩
theorem lw_p15 : lw_okq (⟨"LocksBySong$Voyage", "hindrance", "(LLocksBySong$Moment;II)I"⟩, 5) := ⟨⟨by decide +kernel, by decide +kernel⟩, List.mem_of_getElem? (i := 218) (by decide +kernel), List.mem_of_getElem? (i := 679) (by decide +kernel), List.mem_of_getElem? (i := 680) (by decide +kernel)⟩
def lw_privs_1 : List (MethodName × Nat) := [(⟨"LocksBySong", "tellOf", "(II)I"⟩, 15), (⟨"LocksBySong", "readLines", "(I)I"⟩, 15), (⟨"LocksBySong$Canal", "readLock", "(ILLocksBySong$Script;)Z"⟩, 11), (⟨"LocksBySong$Canal", "readSinger", "(ILLocksBySong$Script;LLocksBySong$Moment;)Z"⟩, 11), (⟨"LocksBySong$Canal", "readPlace", "(LLocksBySong$Script;)I"⟩, 11), (⟨"LocksBySong$Canal", "readBarge", "(ILLocksBySong$Script;LLocksBySong$Moment;)Z"⟩, 11), (⟨"LocksBySong$Rule", "comparison", "(LLocksBySong$Script;I)Z"⟩, 6), (⟨"LocksBySong$Rule", "sum", "(LLocksBySong$Script;I)Z"⟩, 6), (⟨"LocksBySong$Rule", "product", "(LLocksBySong$Script;I)Z"⟩, 6), (⟨"LocksBySong$Rule", "negated", "(LLocksBySong$Script;I)Z"⟩, 6), (⟨"LocksBySong$Rule", "thing", "(LLocksBySong$Script;I)Z"⟩, 6), (⟨"LocksBySong$Rule", "emit", "(I)Z"⟩, 6), (⟨"LocksBySong", "takeOn", "(II)I"⟩, 15), (⟨"LocksBySong", "remember", "(I)I"⟩, 15), (⟨"LocksBySong", "letGo", "(I)I"⟩, 15), (⟨"LocksBySong$Voyage", "hindrance", "(LLocksBySong$Moment;II)I"⟩, 5)]
theorem lw_r1 : ∀ q ∈ lw_privs_1, lw_okq q := List.forall_mem_cons.mpr ⟨lw_p0, List.forall_mem_cons.mpr ⟨lw_p1, List.forall_mem_cons.mpr ⟨lw_p2, List.forall_mem_cons.mpr ⟨lw_p3, List.forall_mem_cons.mpr ⟨lw_p4, List.forall_mem_cons.mpr ⟨lw_p5, List.forall_mem_cons.mpr ⟨lw_p6, List.forall_mem_cons.mpr ⟨lw_p7, List.forall_mem_cons.mpr ⟨lw_p8, List.forall_mem_cons.mpr ⟨lw_p9, List.forall_mem_cons.mpr ⟨lw_p10, List.forall_mem_cons.mpr ⟨lw_p11, List.forall_mem_cons.mpr ⟨lw_p12, List.forall_mem_cons.mpr ⟨lw_p13, List.forall_mem_cons.mpr ⟨lw_p14, List.forall_mem_cons.mpr ⟨lw_p15, fun _ h => absurd h List.not_mem_nil⟩⟩⟩⟩⟩⟩⟩⟩⟩⟩⟩⟩⟩⟩⟩⟩
theorem lw_p16 : lw_okq (⟨"LocksBySong$Choir", "firstFor", "(III)I"⟩, 3) := ⟨⟨by decide +kernel, by decide +kernel⟩, List.mem_of_getElem? (i := 200) (by decide +kernel), List.mem_of_getElem? (i := 721) (by decide +kernel), List.mem_of_getElem? (i := 722) (by decide +kernel)⟩
theorem lw_p17 : lw_okq (⟨"LocksBySong$Voyage", "minutesFor", "(LLocksBySong$Moment;III)I"⟩, 5) := ⟨⟨by decide +kernel, by decide +kernel⟩, List.mem_of_getElem? (i := 218) (by decide +kernel), List.mem_of_getElem? (i := 732) (by decide +kernel), List.mem_of_getElem? (i := 733) (by decide +kernel)⟩
theorem lw_p18 : lw_okq (⟨"LocksBySong$Rule", "worth", "()I"⟩, 6) := ⟨⟨by decide +kernel, by decide +kernel⟩, List.mem_of_getElem? (i := 75) (by decide +kernel), List.mem_of_getElem? (i := 749) (by decide +kernel), List.mem_of_getElem? (i := 750) (by decide +kernel)⟩
theorem lw_p19 : lw_okq (⟨"LocksBySong", "tellSong", "()V"⟩, 15) := ⟨⟨by decide +kernel, by decide +kernel⟩, List.mem_of_getElem? (i := 27) (by decide +kernel), List.mem_of_getElem? (i := 763) (by decide +kernel), List.mem_of_getElem? (i := 764) (by decide +kernel)⟩
theorem lw_p20 : lw_okq (⟨"LocksBySong", "takeRest", "(I)I"⟩, 15) := ⟨⟨by decide +kernel, by decide +kernel⟩, List.mem_of_getElem? (i := 27) (by decide +kernel), List.mem_of_getElem? (i := 779) (by decide +kernel), List.mem_of_getElem? (i := 780) (by decide +kernel)⟩
theorem lw_p21 : lw_okq (⟨"LocksBySong", "readActs", "()I"⟩, 15) := ⟨⟨by decide +kernel, by decide +kernel⟩, List.mem_of_getElem? (i := 27) (by decide +kernel), List.mem_of_getElem? (i := 792) (by decide +kernel), List.mem_of_getElem? (i := 793) (by decide +kernel)⟩
theorem lw_p22 : lw_okq (⟨"LocksBySong", "readAct", "()I"⟩, 15) := ⟨⟨by decide +kernel, by decide +kernel⟩, List.mem_of_getElem? (i := 27) (by decide +kernel), List.mem_of_getElem? (i := 796) (by decide +kernel), List.mem_of_getElem? (i := 797) (by decide +kernel)⟩
theorem lw_p23 : lw_okq (⟨"LocksBySong", "perform", "(I)I"⟩, 15) := ⟨⟨by decide +kernel, by decide +kernel⟩, List.mem_of_getElem? (i := 27) (by decide +kernel), List.mem_of_getElem? (i := 803) (by decide +kernel), List.mem_of_getElem? (i := 804) (by decide +kernel)⟩
theorem lw_p24 : lw_okq (⟨"LocksBySong", "singsShifted", "(III)Z"⟩, 15) := ⟨⟨by decide +kernel, by decide +kernel⟩, List.mem_of_getElem? (i := 27) (by decide +kernel), List.mem_of_getElem? (i := 857) (by decide +kernel), List.mem_of_getElem? (i := 858) (by decide +kernel)⟩
theorem lw_p25 : lw_okq (⟨"LocksBySong$Hiring", "isBetter", "(II)Z"⟩, 3) := ⟨⟨by decide +kernel, by decide +kernel⟩, List.mem_of_getElem? (i := 241) (by decide +kernel), List.mem_of_getElem? (i := 883) (by decide +kernel), List.mem_of_getElem? (i := 884) (by decide +kernel)⟩
theorem lw_p26 : lw_okq (⟨"LocksBySong", "tellHired", "(I)I"⟩, 15) := ⟨⟨by decide +kernel, by decide +kernel⟩, List.mem_of_getElem? (i := 27) (by decide +kernel), List.mem_of_getElem? (i := 892) (by decide +kernel), List.mem_of_getElem? (i := 893) (by decide +kernel)⟩
theorem lw_p27 : lw_okq (⟨"LocksBySong$Waiting", "findCosts", "()V"⟩, 5) := ⟨⟨by decide +kernel, by decide +kernel⟩, List.mem_of_getElem? (i := 283) (by decide +kernel), List.mem_of_getElem? (i := 942) (by decide +kernel), List.mem_of_getElem? (i := 943) (by decide +kernel)⟩
theorem lw_p28 : lw_okq (⟨"LocksBySong$Waiting", "costNext", "(III)I"⟩, 5) := ⟨⟨by decide +kernel, by decide +kernel⟩, List.mem_of_getElem? (i := 283) (by decide +kernel), List.mem_of_getElem? (i := 949) (by decide +kernel), List.mem_of_getElem? (i := 950) (by decide +kernel)⟩
theorem lw_p29 : lw_okq (⟨"LocksBySong$Waiting", "downCost", "(III)I"⟩, 5) := ⟨⟨by decide +kernel, by decide +kernel⟩, List.mem_of_getElem? (i := 283) (by decide +kernel), List.mem_of_getElem? (i := 953) (by decide +kernel), List.mem_of_getElem? (i := 954) (by decide +kernel)⟩
theorem lw_p30 : lw_okq (⟨"LocksBySong$Waiting", "costAfter", "(III)I"⟩, 5) := ⟨⟨by decide +kernel, by decide +kernel⟩, List.mem_of_getElem? (i := 283) (by decide +kernel), List.mem_of_getElem? (i := 957) (by decide +kernel), List.mem_of_getElem? (i := 958) (by decide +kernel)⟩
theorem lw_p31 : lw_okq (⟨"LocksBySong$Waiting", "upCost", "(III)I"⟩, 5) := ⟨⟨by decide +kernel, by decide +kernel⟩, List.mem_of_getElem? (i := 283) (by decide +kernel), List.mem_of_getElem? (i := 961) (by decide +kernel), List.mem_of_getElem? (i := 962) (by decide +kernel)⟩
def lw_privs_2 : List (MethodName × Nat) := [(⟨"LocksBySong$Choir", "firstFor", "(III)I"⟩, 3), (⟨"LocksBySong$Voyage", "minutesFor", "(LLocksBySong$Moment;III)I"⟩, 5), (⟨"LocksBySong$Rule", "worth", "()I"⟩, 6), (⟨"LocksBySong", "tellSong", "()V"⟩, 15), (⟨"LocksBySong", "takeRest", "(I)I"⟩, 15), (⟨"LocksBySong", "readActs", "()I"⟩, 15), (⟨"LocksBySong", "readAct", "()I"⟩, 15), (⟨"LocksBySong", "perform", "(I)I"⟩, 15), (⟨"LocksBySong", "singsShifted", "(III)Z"⟩, 15), (⟨"LocksBySong$Hiring", "isBetter", "(II)Z"⟩, 3), (⟨"LocksBySong", "tellHired", "(I)I"⟩, 15), (⟨"LocksBySong$Waiting", "findCosts", "()V"⟩, 5), (⟨"LocksBySong$Waiting", "costNext", "(III)I"⟩, 5), (⟨"LocksBySong$Waiting", "downCost", "(III)I"⟩, 5), (⟨"LocksBySong$Waiting", "costAfter", "(III)I"⟩, 5), (⟨"LocksBySong$Waiting", "upCost", "(III)I"⟩, 5)]
theorem lw_r2 : ∀ q ∈ lw_privs_2, lw_okq q := List.forall_mem_cons.mpr ⟨lw_p16, List.forall_mem_cons.mpr ⟨lw_p17, List.forall_mem_cons.mpr ⟨lw_p18, List.forall_mem_cons.mpr ⟨lw_p19, List.forall_mem_cons.mpr ⟨lw_p20, List.forall_mem_cons.mpr ⟨lw_p21, List.forall_mem_cons.mpr ⟨lw_p22, List.forall_mem_cons.mpr ⟨lw_p23, List.forall_mem_cons.mpr ⟨lw_p24, List.forall_mem_cons.mpr ⟨lw_p25, List.forall_mem_cons.mpr ⟨lw_p26, List.forall_mem_cons.mpr ⟨lw_p27, List.forall_mem_cons.mpr ⟨lw_p28, List.forall_mem_cons.mpr ⟨lw_p29, List.forall_mem_cons.mpr ⟨lw_p30, List.forall_mem_cons.mpr ⟨lw_p31, fun _ h => absurd h List.not_mem_nil⟩⟩⟩⟩⟩⟩⟩⟩⟩⟩⟩⟩⟩⟩⟩⟩
theorem lw_p32 : lw_okq (⟨"LocksBySong$Waiting", "goesUpNext", "(III)Z"⟩, 5) := ⟨⟨by decide +kernel, by decide +kernel⟩, List.mem_of_getElem? (i := 283) (by decide +kernel), List.mem_of_getElem? (i := 967) (by decide +kernel), List.mem_of_getElem? (i := 968) (by decide +kernel)⟩
theorem lw_p33 : lw_okq (⟨"LocksBySong$Voyage", "chordAhead", "(LLocksBySong$Moment;II)I"⟩, 5) := ⟨⟨by decide +kernel, by decide +kernel⟩, List.mem_of_getElem? (i := 218) (by decide +kernel), List.mem_of_getElem? (i := 980) (by decide +kernel), List.mem_of_getElem? (i := 981) (by decide +kernel)⟩
theorem lw_p34 : lw_okq (⟨"LocksBySong$Night", "hasInRange", "(II)Z"⟩, 6) := ⟨⟨by decide +kernel, by decide +kernel⟩, List.mem_of_getElem? (i := 258) (by decide +kernel), List.mem_of_getElem? (i := 1028) (by decide +kernel), List.mem_of_getElem? (i := 1029) (by decide +kernel)⟩
theorem lw_p35 : lw_okq (⟨"LocksBySong$Night", "findPairs", "(I)V"⟩, 6) := ⟨⟨by decide +kernel, by decide +kernel⟩, List.mem_of_getElem? (i := 258) (by decide +kernel), List.mem_of_getElem? (i := 1042) (by decide +kernel), List.mem_of_getElem? (i := 1043) (by decide +kernel)⟩
theorem lw_p36 : lw_okq (⟨"LocksBySong$Night", "markPair", "(III)V"⟩, 6) := ⟨⟨by decide +kernel, by decide +kernel⟩, List.mem_of_getElem? (i := 258) (by decide +kernel), List.mem_of_getElem? (i := 1046) (by decide +kernel), List.mem_of_getElem? (i := 1047) (by decide +kernel)⟩
theorem lw_p37 : lw_okq (⟨"LocksBySong$Night", "allApart", "()Z"⟩, 6) := ⟨⟨by decide +kernel, by decide +kernel⟩, List.mem_of_getElem? (i := 258) (by decide +kernel), List.mem_of_getElem? (i := 1050) (by decide +kernel), List.mem_of_getElem? (i := 1051) (by decide +kernel)⟩
theorem lw_p38 : lw_okq (⟨"LocksBySong$Night", "partingBy", "(III)I"⟩, 6) := ⟨⟨by decide +kernel, by decide +kernel⟩, List.mem_of_getElem? (i := 258) (by decide +kernel), List.mem_of_getElem? (i := 1054) (by decide +kernel), List.mem_of_getElem? (i := 1055) (by decide +kernel)⟩
theorem lw_p39 : lw_okq (⟨"LocksBySong", "tellFirstPair", "(III)V"⟩, 15) := ⟨⟨by decide +kernel, by decide +kernel⟩, List.mem_of_getElem? (i := 27) (by decide +kernel), List.mem_of_getElem? (i := 1087) (by decide +kernel), List.mem_of_getElem? (i := 1088) (by decide +kernel)⟩
theorem lw_p40 : lw_okq (⟨"java/lang/Throwable", "fillInStackTrace", "(I)Ljava/lang/Throwable;"⟩, 6) := ⟨⟨by decide +kernel, by decide +kernel⟩, List.mem_of_getElem? (i := 1164) (by decide +kernel), List.mem_of_getElem? (i := 1162) (by decide +kernel), List.mem_of_getElem? (i := 1163) (by decide +kernel)⟩
theorem lw_p41 : lw_okq (⟨"LocksBySongModel", "readsLines", "(II)I"⟩, 53) := ⟨⟨by decide +kernel, by decide +kernel⟩, List.mem_of_getElem? (i := 1214) (by decide +kernel), List.mem_of_getElem? (i := 1399) (by decide +kernel), List.mem_of_getElem? (i := 1400) (by decide +kernel)⟩
theorem lw_p42 : lw_okq (⟨"LocksBySongModel", "begins", "(I)I"⟩, 53) := ⟨⟨by decide +kernel, by decide +kernel⟩, List.mem_of_getElem? (i := 1214) (by decide +kernel), List.mem_of_getElem? (i := 1403) (by decide +kernel), List.mem_of_getElem? (i := 1404) (by decide +kernel)⟩
theorem lw_p43 : lw_okq (⟨"LocksBySongModel", "readsLock", "()Z"⟩, 53) := ⟨⟨by decide +kernel, by decide +kernel⟩, List.mem_of_getElem? (i := 1214) (by decide +kernel), List.mem_of_getElem? (i := 1408) (by decide +kernel), List.mem_of_getElem? (i := 1409) (by decide +kernel)⟩
theorem lw_p44 : lw_okq (⟨"LocksBySongModel", "signIn", "(III)I"⟩, 53) := ⟨⟨by decide +kernel, by decide +kernel⟩, List.mem_of_getElem? (i := 1214) (by decide +kernel), List.mem_of_getElem? (i := 1412) (by decide +kernel), List.mem_of_getElem? (i := 1413) (by decide +kernel)⟩
theorem lw_p45 : lw_okq (⟨"LocksBySongModel", "readsSinger", "()Z"⟩, 53) := ⟨⟨by decide +kernel, by decide +kernel⟩, List.mem_of_getElem? (i := 1214) (by decide +kernel), List.mem_of_getElem? (i := 1416) (by decide +kernel), List.mem_of_getElem? (i := 1417) (by decide +kernel)⟩
theorem lw_p46 : lw_okq (⟨"LocksBySongModel", "takes", "(I)Z"⟩, 53) := ⟨⟨by decide +kernel, by decide +kernel⟩, List.mem_of_getElem? (i := 1214) (by decide +kernel), List.mem_of_getElem? (i := 1420) (by decide +kernel), List.mem_of_getElem? (i := 1421) (by decide +kernel)⟩
theorem lw_p47 : lw_okq (⟨"LocksBySongModel", "number", "(I)I"⟩, 53) := ⟨⟨by decide +kernel, by decide +kernel⟩, List.mem_of_getElem? (i := 1214) (by decide +kernel), List.mem_of_getElem? (i := 1427) (by decide +kernel), List.mem_of_getElem? (i := 1428) (by decide +kernel)⟩
def lw_privs_3 : List (MethodName × Nat) := [(⟨"LocksBySong$Waiting", "goesUpNext", "(III)Z"⟩, 5), (⟨"LocksBySong$Voyage", "chordAhead", "(LLocksBySong$Moment;II)I"⟩, 5), (⟨"LocksBySong$Night", "hasInRange", "(II)Z"⟩, 6), (⟨"LocksBySong$Night", "findPairs", "(I)V"⟩, 6), (⟨"LocksBySong$Night", "markPair", "(III)V"⟩, 6), (⟨"LocksBySong$Night", "allApart", "()Z"⟩, 6), (⟨"LocksBySong$Night", "partingBy", "(III)I"⟩, 6), (⟨"LocksBySong", "tellFirstPair", "(III)V"⟩, 15), (⟨"java/lang/Throwable", "fillInStackTrace", "(I)Ljava/lang/Throwable;"⟩, 6), (⟨"LocksBySongModel", "readsLines", "(II)I"⟩, 53), (⟨"LocksBySongModel", "begins", "(I)I"⟩, 53), (⟨"LocksBySongModel", "readsLock", "()Z"⟩, 53), (⟨"LocksBySongModel", "signIn", "(III)I"⟩, 53), (⟨"LocksBySongModel", "readsSinger", "()Z"⟩, 53), (⟨"LocksBySongModel", "takes", "(I)Z"⟩, 53), (⟨"LocksBySongModel", "number", "(I)I"⟩, 53)]
theorem lw_r3 : ∀ q ∈ lw_privs_3, lw_okq q := List.forall_mem_cons.mpr ⟨lw_p32, List.forall_mem_cons.mpr ⟨lw_p33, List.forall_mem_cons.mpr ⟨lw_p34, List.forall_mem_cons.mpr ⟨lw_p35, List.forall_mem_cons.mpr ⟨lw_p36, List.forall_mem_cons.mpr ⟨lw_p37, List.forall_mem_cons.mpr ⟨lw_p38, List.forall_mem_cons.mpr ⟨lw_p39, List.forall_mem_cons.mpr ⟨lw_p40, List.forall_mem_cons.mpr ⟨lw_p41, List.forall_mem_cons.mpr ⟨lw_p42, List.forall_mem_cons.mpr ⟨lw_p43, List.forall_mem_cons.mpr ⟨lw_p44, List.forall_mem_cons.mpr ⟨lw_p45, List.forall_mem_cons.mpr ⟨lw_p46, List.forall_mem_cons.mpr ⟨lw_p47, fun _ h => absurd h List.not_mem_nil⟩⟩⟩⟩⟩⟩⟩⟩⟩⟩⟩⟩⟩⟩⟩⟩
theorem lw_p48 : lw_okq (⟨"LocksBySongModel", "isDigit", "()Z"⟩, 53) := ⟨⟨by decide +kernel, by decide +kernel⟩, List.mem_of_getElem? (i := 1214) (by decide +kernel), List.mem_of_getElem? (i := 1431) (by decide +kernel), List.mem_of_getElem? (i := 1432) (by decide +kernel)⟩
theorem lw_p49 : lw_okq (⟨"LocksBySongModel", "readsBarge", "()Z"⟩, 53) := ⟨⟨by decide +kernel, by decide +kernel⟩, List.mem_of_getElem? (i := 1214) (by decide +kernel), List.mem_of_getElem? (i := 1437) (by decide +kernel), List.mem_of_getElem? (i := 1438) (by decide +kernel)⟩
theorem lw_p50 : lw_okq (⟨"LocksBySongModel", "faultOf", "(IIZ)I"⟩, 53) := ⟨⟨by decide +kernel, by decide +kernel⟩, List.mem_of_getElem? (i := 1214) (by decide +kernel), List.mem_of_getElem? (i := 1441) (by decide +kernel), List.mem_of_getElem? (i := 1442) (by decide +kernel)⟩
theorem lw_p51 : lw_okq (⟨"LocksBySongModel", "came", "()I"⟩, 53) := ⟨⟨by decide +kernel, by decide +kernel⟩, List.mem_of_getElem? (i := 1214) (by decide +kernel), List.mem_of_getElem? (i := 1445) (by decide +kernel), List.mem_of_getElem? (i := 1446) (by decide +kernel)⟩
theorem lw_p52 : lw_okq (⟨"LocksBySongModel", "readsRank", "(I)Z"⟩, 53) := ⟨⟨by decide +kernel, by decide +kernel⟩, List.mem_of_getElem? (i := 1214) (by decide +kernel), List.mem_of_getElem? (i := 1461) (by decide +kernel), List.mem_of_getElem? (i := 1462) (by decide +kernel)⟩
theorem lw_p53 : lw_okq (⟨"LocksBySongModel", "readsThing", "()Z"⟩, 53) := ⟨⟨by decide +kernel, by decide +kernel⟩, List.mem_of_getElem? (i := 1214) (by decide +kernel), List.mem_of_getElem? (i := 1465) (by decide +kernel), List.mem_of_getElem? (i := 1466) (by decide +kernel)⟩
theorem lw_p54 : lw_okq (⟨"LocksBySongModel", "codes", "(I)V"⟩, 53) := ⟨⟨by decide +kernel, by decide +kernel⟩, List.mem_of_getElem? (i := 1214) (by decide +kernel), List.mem_of_getElem? (i := 1469) (by decide +kernel), List.mem_of_getElem? (i := 1470) (by decide +kernel)⟩
theorem lw_p55 : lw_okq (⟨"LocksBySongModel", "takesOf", "(Ljava/lang/String;)I"⟩, 53) := ⟨⟨by decide +kernel, by decide +kernel⟩, List.mem_of_getElem? (i := 1214) (by decide +kernel), List.mem_of_getElem? (i := 1474) (by decide +kernel), List.mem_of_getElem? (i := 1475) (by decide +kernel)⟩
theorem lw_p56 : lw_okq (⟨"LocksBySongModel", "among", "(Ljava/lang/String;)I"⟩, 53) := ⟨⟨by decide +kernel, by decide +kernel⟩, List.mem_of_getElem? (i := 1214) (by decide +kernel), List.mem_of_getElem? (i := 1478) (by decide +kernel), List.mem_of_getElem? (i := 1479) (by decide +kernel)⟩
theorem lw_p57 : lw_okq (⟨"LocksBySongModel", "isLock", "(I)Z"⟩, 53) := ⟨⟨by decide +kernel, by decide +kernel⟩, List.mem_of_getElem? (i := 1214) (by decide +kernel), List.mem_of_getElem? (i := 1510) (by decide +kernel), List.mem_of_getElem? (i := 1511) (by decide +kernel)⟩
theorem lw_p58 : lw_okq (⟨"LocksBySongModel", "refuse", "()I"⟩, 53) := ⟨⟨by decide +kernel, by decide +kernel⟩, List.mem_of_getElem? (i := 1214) (by decide +kernel), List.mem_of_getElem? (i := 1515) (by decide +kernel), List.mem_of_getElem? (i := 1516) (by decide +kernel)⟩
theorem lw_p59 : lw_okq (⟨"LocksBySongModel", "isSinger", "(I)Z"⟩, 53) := ⟨⟨by decide +kernel, by decide +kernel⟩, List.mem_of_getElem? (i := 1214) (by decide +kernel), List.mem_of_getElem? (i := 1523) (by decide +kernel), List.mem_of_getElem? (i := 1524) (by decide +kernel)⟩
theorem lw_p60 : lw_okq (⟨"LocksBySongModel", "whereIs", "(I)I"⟩, 53) := ⟨⟨by decide +kernel, by decide +kernel⟩, List.mem_of_getElem? (i := 1214) (by decide +kernel), List.mem_of_getElem? (i := 1530) (by decide +kernel), List.mem_of_getElem? (i := 1531) (by decide +kernel)⟩
theorem lw_p61 : lw_okq (⟨"LocksBySongModel", "isBarge", "(I)Z"⟩, 53) := ⟨⟨by decide +kernel, by decide +kernel⟩, List.mem_of_getElem? (i := 1214) (by decide +kernel), List.mem_of_getElem? (i := 1544) (by decide +kernel), List.mem_of_getElem? (i := 1545) (by decide +kernel)⟩
theorem lw_p62 : lw_okq (⟨"LocksBySongModel", "crew", "([II)I"⟩, 53) := ⟨⟨by decide +kernel, by decide +kernel⟩, List.mem_of_getElem? (i := 1214) (by decide +kernel), List.mem_of_getElem? (i := 1549) (by decide +kernel), List.mem_of_getElem? (i := 1550) (by decide +kernel)⟩
theorem lw_p63 : lw_okq (⟨"LocksBySongModel", "putsBy", "()V"⟩, 53) := ⟨⟨by decide +kernel, by decide +kernel⟩, List.mem_of_getElem? (i := 1214) (by decide +kernel), List.mem_of_getElem? (i := 1572) (by decide +kernel), List.mem_of_getElem? (i := 1573) (by decide +kernel)⟩
def lw_privs_4 : List (MethodName × Nat) := [(⟨"LocksBySongModel", "isDigit", "()Z"⟩, 53), (⟨"LocksBySongModel", "readsBarge", "()Z"⟩, 53), (⟨"LocksBySongModel", "faultOf", "(IIZ)I"⟩, 53), (⟨"LocksBySongModel", "came", "()I"⟩, 53), (⟨"LocksBySongModel", "readsRank", "(I)Z"⟩, 53), (⟨"LocksBySongModel", "readsThing", "()Z"⟩, 53), (⟨"LocksBySongModel", "codes", "(I)V"⟩, 53), (⟨"LocksBySongModel", "takesOf", "(Ljava/lang/String;)I"⟩, 53), (⟨"LocksBySongModel", "among", "(Ljava/lang/String;)I"⟩, 53), (⟨"LocksBySongModel", "isLock", "(I)Z"⟩, 53), (⟨"LocksBySongModel", "refuse", "()I"⟩, 53), (⟨"LocksBySongModel", "isSinger", "(I)Z"⟩, 53), (⟨"LocksBySongModel", "whereIs", "(I)I"⟩, 53), (⟨"LocksBySongModel", "isBarge", "(I)Z"⟩, 53), (⟨"LocksBySongModel", "crew", "([II)I"⟩, 53), (⟨"LocksBySongModel", "putsBy", "()V"⟩, 53)]
theorem lw_r4 : ∀ q ∈ lw_privs_4, lw_okq q := List.forall_mem_cons.mpr ⟨lw_p48, List.forall_mem_cons.mpr ⟨lw_p49, List.forall_mem_cons.mpr ⟨lw_p50, List.forall_mem_cons.mpr ⟨lw_p51, List.forall_mem_cons.mpr ⟨lw_p52, List.forall_mem_cons.mpr ⟨lw_p53, List.forall_mem_cons.mpr ⟨lw_p54, List.forall_mem_cons.mpr ⟨lw_p55, List.forall_mem_cons.mpr ⟨lw_p56, List.forall_mem_cons.mpr ⟨lw_p57, List.forall_mem_cons.mpr ⟨lw_p58, List.forall_mem_cons.mpr ⟨lw_p59, List.forall_mem_cons.mpr ⟨lw_p60, List.forall_mem_cons.mpr ⟨lw_p61, List.forall_mem_cons.mpr ⟨lw_p62, List.forall_mem_cons.mpr ⟨lw_p63, fun _ h => absurd h List.not_mem_nil⟩⟩⟩⟩⟩⟩⟩⟩⟩⟩⟩⟩⟩⟩⟩⟩
theorem lw_p64 : lw_okq (⟨"LocksBySongModel", "hiresTo", "([III)I"⟩, 53) := ⟨⟨by decide +kernel, by decide +kernel⟩, List.mem_of_getElem? (i := 1214) (by decide +kernel), List.mem_of_getElem? (i := 1576) (by decide +kernel), List.mem_of_getElem? (i := 1577) (by decide +kernel)⟩
theorem lw_p65 : lw_okq (⟨"LocksBySongModel", "counts", "(I)I"⟩, 53) := ⟨⟨by decide +kernel, by decide +kernel⟩, List.mem_of_getElem? (i := 1214) (by decide +kernel), List.mem_of_getElem? (i := 1580) (by decide +kernel), List.mem_of_getElem? (i := 1581) (by decide +kernel)⟩
theorem lw_p66 : lw_okq (⟨"LocksBySongModel", "adds", "(I)I"⟩, 53) := ⟨⟨by decide +kernel, by decide +kernel⟩, List.mem_of_getElem? (i := 1214) (by decide +kernel), List.mem_of_getElem? (i := 1584) (by decide +kernel), List.mem_of_getElem? (i := 1585) (by decide +kernel)⟩
theorem lw_p67 : lw_okq (⟨"LocksBySongModel", "leaves", "([II)I"⟩, 53) := ⟨⟨by decide +kernel, by decide +kernel⟩, List.mem_of_getElem? (i := 1214) (by decide +kernel), List.mem_of_getElem? (i := 1592) (by decide +kernel), List.mem_of_getElem? (i := 1593) (by decide +kernel)⟩
theorem lw_p68 : lw_okq (⟨"LocksBySongModel", "passes", "([III)I"⟩, 53) := ⟨⟨by decide +kernel, by decide +kernel⟩, List.mem_of_getElem? (i := 1214) (by decide +kernel), List.mem_of_getElem? (i := 1600) (by decide +kernel), List.mem_of_getElem? (i := 1601) (by decide +kernel)⟩
theorem lw_p69 : lw_okq (⟨"LocksBySongModel", "whyNot", "([III)I"⟩, 53) := ⟨⟨by decide +kernel, by decide +kernel⟩, List.mem_of_getElem? (i := 1214) (by decide +kernel), List.mem_of_getElem? (i := 1604) (by decide +kernel), List.mem_of_getElem? (i := 1605) (by decide +kernel)⟩
theorem lw_p70 : lw_okq (⟨"LocksBySongModel", "singsChord", "([III)Z"⟩, 53) := ⟨⟨by decide +kernel, by decide +kernel⟩, List.mem_of_getElem? (i := 1214) (by decide +kernel), List.mem_of_getElem? (i := 1608) (by decide +kernel), List.mem_of_getElem? (i := 1609) (by decide +kernel)⟩
theorem lw_p71 : lw_okq (⟨"LocksBySongModel", "laysNotes", "(II)V"⟩, 53) := ⟨⟨by decide +kernel, by decide +kernel⟩, List.mem_of_getElem? (i := 1214) (by decide +kernel), List.mem_of_getElem? (i := 1612) (by decide +kernel), List.mem_of_getElem? (i := 1613) (by decide +kernel)⟩
theorem lw_p72 : lw_okq (⟨"LocksBySongModel", "singsFrom", "([IIII)Z"⟩, 53) := ⟨⟨by decide +kernel, by decide +kernel⟩, List.mem_of_getElem? (i := 1214) (by decide +kernel), List.mem_of_getElem? (i := 1616) (by decide +kernel), List.mem_of_getElem? (i := 1617) (by decide +kernel)⟩
theorem lw_p73 : lw_okq (⟨"LocksBySongModel", "canSing", "([III)Z"⟩, 53) := ⟨⟨by decide +kernel, by decide +kernel⟩, List.mem_of_getElem? (i := 1214) (by decide +kernel), List.mem_of_getElem? (i := 1623) (by decide +kernel), List.mem_of_getElem? (i := 1624) (by decide +kernel)⟩
theorem lw_p74 : lw_okq (⟨"LocksBySongModel", "minutes", "([IIII)I"⟩, 53) := ⟨⟨by decide +kernel, by decide +kernel⟩, List.mem_of_getElem? (i := 1214) (by decide +kernel), List.mem_of_getElem? (i := 1630) (by decide +kernel), List.mem_of_getElem? (i := 1631) (by decide +kernel)⟩
theorem lw_p75 : lw_okq (⟨"LocksBySongModel", "tiredAll", "([II)I"⟩, 53) := ⟨⟨by decide +kernel, by decide +kernel⟩, List.mem_of_getElem? (i := 1214) (by decide +kernel), List.mem_of_getElem? (i := 1634) (by decide +kernel), List.mem_of_getElem? (i := 1635) (by decide +kernel)⟩
theorem lw_p76 : lw_okq (⟨"LocksBySongModel", "ruled", "()I"⟩, 53) := ⟨⟨by decide +kernel, by decide +kernel⟩, List.mem_of_getElem? (i := 1214) (by decide +kernel), List.mem_of_getElem? (i := 1639) (by decide +kernel), List.mem_of_getElem? (i := 1640) (by decide +kernel)⟩
theorem lw_p77 : lw_okq (⟨"LocksBySongModel", "tellsSung", "()V"⟩, 53) := ⟨⟨by decide +kernel, by decide +kernel⟩, List.mem_of_getElem? (i := 1214) (by decide +kernel), List.mem_of_getElem? (i := 1646) (by decide +kernel), List.mem_of_getElem? (i := 1647) (by decide +kernel)⟩
theorem lw_p78 : lw_okq (⟨"LocksBySongModel", "enters", "(J)V"⟩, 53) := ⟨⟨by decide +kernel, by decide +kernel⟩, List.mem_of_getElem? (i := 1214) (by decide +kernel), List.mem_of_getElem? (i := 1650) (by decide +kernel), List.mem_of_getElem? (i := 1651) (by decide +kernel)⟩
theorem lw_p79 : lw_okq (⟨"LocksBySongModel", "restsFor", "([II)V"⟩, 53) := ⟨⟨by decide +kernel, by decide +kernel⟩, List.mem_of_getElem? (i := 1214) (by decide +kernel), List.mem_of_getElem? (i := 1659) (by decide +kernel), List.mem_of_getElem? (i := 1660) (by decide +kernel)⟩
def lw_privs_5 : List (MethodName × Nat) := [(⟨"LocksBySongModel", "hiresTo", "([III)I"⟩, 53), (⟨"LocksBySongModel", "counts", "(I)I"⟩, 53), (⟨"LocksBySongModel", "adds", "(I)I"⟩, 53), (⟨"LocksBySongModel", "leaves", "([II)I"⟩, 53), (⟨"LocksBySongModel", "passes", "([III)I"⟩, 53), (⟨"LocksBySongModel", "whyNot", "([III)I"⟩, 53), (⟨"LocksBySongModel", "singsChord", "([III)Z"⟩, 53), (⟨"LocksBySongModel", "laysNotes", "(II)V"⟩, 53), (⟨"LocksBySongModel", "singsFrom", "([IIII)Z"⟩, 53), (⟨"LocksBySongModel", "canSing", "([III)Z"⟩, 53), (⟨"LocksBySongModel", "minutes", "([IIII)I"⟩, 53), (⟨"LocksBySongModel", "tiredAll", "([II)I"⟩, 53), (⟨"LocksBySongModel", "ruled", "()I"⟩, 53), (⟨"LocksBySongModel", "tellsSung", "()V"⟩, 53), (⟨"LocksBySongModel", "enters", "(J)V"⟩, 53), (⟨"LocksBySongModel", "restsFor", "([II)V"⟩, 53)]
theorem lw_r5 : ∀ q ∈ lw_privs_5, lw_okq q := List.forall_mem_cons.mpr ⟨lw_p64, List.forall_mem_cons.mpr ⟨lw_p65, List.forall_mem_cons.mpr ⟨lw_p66, List.forall_mem_cons.mpr ⟨lw_p67, List.forall_mem_cons.mpr ⟨lw_p68, List.forall_mem_cons.mpr ⟨lw_p69, List.forall_mem_cons.mpr ⟨lw_p70, List.forall_mem_cons.mpr ⟨lw_p71, List.forall_mem_cons.mpr ⟨lw_p72, List.forall_mem_cons.mpr ⟨lw_p73, List.forall_mem_cons.mpr ⟨lw_p74, List.forall_mem_cons.mpr ⟨lw_p75, List.forall_mem_cons.mpr ⟨lw_p76, List.forall_mem_cons.mpr ⟨lw_p77, List.forall_mem_cons.mpr ⟨lw_p78, List.forall_mem_cons.mpr ⟨lw_p79, fun _ h => absurd h List.not_mem_nil⟩⟩⟩⟩⟩⟩⟩⟩⟩⟩⟩⟩⟩⟩⟩⟩
theorem lw_p80 : lw_okq (⟨"LocksBySongModel", "readsAct", "()Z"⟩, 53) := ⟨⟨by decide +kernel, by decide +kernel⟩, List.mem_of_getElem? (i := 1214) (by decide +kernel), List.mem_of_getElem? (i := 1667) (by decide +kernel), List.mem_of_getElem? (i := 1668) (by decide +kernel)⟩
theorem lw_p81 : lw_okq (⟨"LocksBySongModel", "does", "(I)Z"⟩, 53) := ⟨⟨by decide +kernel, by decide +kernel⟩, List.mem_of_getElem? (i := 1214) (by decide +kernel), List.mem_of_getElem? (i := 1672) (by decide +kernel), List.mem_of_getElem? (i := 1673) (by decide +kernel)⟩
theorem lw_p82 : lw_okq (⟨"LocksBySongModel", "isPair", "(II)Z"⟩, 53) := ⟨⟨by decide +kernel, by decide +kernel⟩, List.mem_of_getElem? (i := 1214) (by decide +kernel), List.mem_of_getElem? (i := 1680) (by decide +kernel), List.mem_of_getElem? (i := 1681) (by decide +kernel)⟩
theorem lw_p83 : lw_okq (⟨"LocksBySongModel", "isShift", "(III)Z"⟩, 53) := ⟨⟨by decide +kernel, by decide +kernel⟩, List.mem_of_getElem? (i := 1214) (by decide +kernel), List.mem_of_getElem? (i := 1696) (by decide +kernel), List.mem_of_getElem? (i := 1697) (by decide +kernel)⟩
theorem lw_p84 : lw_okq (⟨"LocksBySongModel", "freeAt", "(I)I"⟩, 53) := ⟨⟨by decide +kernel, by decide +kernel⟩, List.mem_of_getElem? (i := 1214) (by decide +kernel), List.mem_of_getElem? (i := 1705) (by decide +kernel), List.mem_of_getElem? (i := 1706) (by decide +kernel)⟩
theorem lw_p85 : lw_okq (⟨"LocksBySongModel", "voicesOf", "(III)I"⟩, 53) := ⟨⟨by decide +kernel, by decide +kernel⟩, List.mem_of_getElem? (i := 1214) (by decide +kernel), List.mem_of_getElem? (i := 1709) (by decide +kernel), List.mem_of_getElem? (i := 1710) (by decide +kernel)⟩
theorem lw_p86 : lw_okq (⟨"LocksBySongModel", "isCheaper", "(II)Z"⟩, 53) := ⟨⟨by decide +kernel, by decide +kernel⟩, List.mem_of_getElem? (i := 1214) (by decide +kernel), List.mem_of_getElem? (i := 1713) (by decide +kernel), List.mem_of_getElem? (i := 1714) (by decide +kernel)⟩
theorem lw_p87 : lw_okq (⟨"LocksBySongModel", "fees", "(I)I"⟩, 53) := ⟨⟨by decide +kernel, by decide +kernel⟩, List.mem_of_getElem? (i := 1214) (by decide +kernel), List.mem_of_getElem? (i := 1717) (by decide +kernel), List.mem_of_getElem? (i := 1718) (by decide +kernel)⟩
theorem lw_p88 : lw_okq (⟨"LocksBySongModel", "isPlace", "(I)Z"⟩, 53) := ⟨⟨by decide +kernel, by decide +kernel⟩, List.mem_of_getElem? (i := 1214) (by decide +kernel), List.mem_of_getElem? (i := 1725) (by decide +kernel), List.mem_of_getElem? (i := 1726) (by decide +kernel)⟩
theorem lw_p89 : lw_okq (⟨"LocksBySongModel", "puts", "()V"⟩, 53) := ⟨⟨by decide +kernel, by decide +kernel⟩, List.mem_of_getElem? (i := 1214) (by decide +kernel), List.mem_of_getElem? (i := 1729) (by decide +kernel), List.mem_of_getElem? (i := 1730) (by decide +kernel)⟩
theorem lw_p90 : lw_okq (⟨"LocksBySongModel", "goesTo", "(II)I"⟩, 53) := ⟨⟨by decide +kernel, by decide +kernel⟩, List.mem_of_getElem? (i := 1214) (by decide +kernel), List.mem_of_getElem? (i := 1733) (by decide +kernel), List.mem_of_getElem? (i := 1734) (by decide +kernel)⟩
theorem lw_p91 : lw_okq (⟨"LocksBySongModel", "singsAll", "(III)Z"⟩, 53) := ⟨⟨by decide +kernel, by decide +kernel⟩, List.mem_of_getElem? (i := 1214) (by decide +kernel), List.mem_of_getElem? (i := 1741) (by decide +kernel), List.mem_of_getElem? (i := 1742) (by decide +kernel)⟩
theorem lw_p92 : lw_okq (⟨"LocksBySongModel", "laysQueue", "()V"⟩, 53) := ⟨⟨by decide +kernel, by decide +kernel⟩, List.mem_of_getElem? (i := 1214) (by decide +kernel), List.mem_of_getElem? (i := 1754) (by decide +kernel), List.mem_of_getElem? (i := 1755) (by decide +kernel)⟩
theorem lw_p93 : lw_okq (⟨"LocksBySongModel", "yetBy", "(IIII)I"⟩, 53) := ⟨⟨by decide +kernel, by decide +kernel⟩, List.mem_of_getElem? (i := 1214) (by decide +kernel), List.mem_of_getElem? (i := 1758) (by decide +kernel), List.mem_of_getElem? (i := 1759) (by decide +kernel)⟩
theorem lw_p94 : lw_okq (⟨"LocksBySongModel", "passing", "()I"⟩, 53) := ⟨⟨by decide +kernel, by decide +kernel⟩, List.mem_of_getElem? (i := 1214) (by decide +kernel), List.mem_of_getElem? (i := 1773) (by decide +kernel), List.mem_of_getElem? (i := 1774) (by decide +kernel)⟩
theorem lw_p95 : lw_okq (⟨"LocksBySongModel", "fitting", "()I"⟩, 53) := ⟨⟨by decide +kernel, by decide +kernel⟩, List.mem_of_getElem? (i := 1214) (by decide +kernel), List.mem_of_getElem? (i := 1789) (by decide +kernel), List.mem_of_getElem? (i := 1790) (by decide +kernel)⟩
def lw_privs_6 : List (MethodName × Nat) := [(⟨"LocksBySongModel", "readsAct", "()Z"⟩, 53), (⟨"LocksBySongModel", "does", "(I)Z"⟩, 53), (⟨"LocksBySongModel", "isPair", "(II)Z"⟩, 53), (⟨"LocksBySongModel", "isShift", "(III)Z"⟩, 53), (⟨"LocksBySongModel", "freeAt", "(I)I"⟩, 53), (⟨"LocksBySongModel", "voicesOf", "(III)I"⟩, 53), (⟨"LocksBySongModel", "isCheaper", "(II)Z"⟩, 53), (⟨"LocksBySongModel", "fees", "(I)I"⟩, 53), (⟨"LocksBySongModel", "isPlace", "(I)Z"⟩, 53), (⟨"LocksBySongModel", "puts", "()V"⟩, 53), (⟨"LocksBySongModel", "goesTo", "(II)I"⟩, 53), (⟨"LocksBySongModel", "singsAll", "(III)Z"⟩, 53), (⟨"LocksBySongModel", "laysQueue", "()V"⟩, 53), (⟨"LocksBySongModel", "yetBy", "(IIII)I"⟩, 53), (⟨"LocksBySongModel", "passing", "()I"⟩, 53), (⟨"LocksBySongModel", "fitting", "()I"⟩, 53)]
theorem lw_r6 : ∀ q ∈ lw_privs_6, lw_okq q := List.forall_mem_cons.mpr ⟨lw_p80, List.forall_mem_cons.mpr ⟨lw_p81, List.forall_mem_cons.mpr ⟨lw_p82, List.forall_mem_cons.mpr ⟨lw_p83, List.forall_mem_cons.mpr ⟨lw_p84, List.forall_mem_cons.mpr ⟨lw_p85, List.forall_mem_cons.mpr ⟨lw_p86, List.forall_mem_cons.mpr ⟨lw_p87, List.forall_mem_cons.mpr ⟨lw_p88, List.forall_mem_cons.mpr ⟨lw_p89, List.forall_mem_cons.mpr ⟨lw_p90, List.forall_mem_cons.mpr ⟨lw_p91, List.forall_mem_cons.mpr ⟨lw_p92, List.forall_mem_cons.mpr ⟨lw_p93, List.forall_mem_cons.mpr ⟨lw_p94, List.forall_mem_cons.mpr ⟨lw_p95, fun _ h => absurd h List.not_mem_nil⟩⟩⟩⟩⟩⟩⟩⟩⟩⟩⟩⟩⟩⟩⟩⟩
theorem lw_p96 : lw_okq (⟨"LocksBySongModel", "singersOf", "(I)I"⟩, 53) := ⟨⟨by decide +kernel, by decide +kernel⟩, List.mem_of_getElem? (i := 1214) (by decide +kernel), List.mem_of_getElem? (i := 1793) (by decide +kernel), List.mem_of_getElem? (i := 1794) (by decide +kernel)⟩
theorem lw_p97 : lw_okq (⟨"LocksBySongModel", "partsBy", "(IIII)I"⟩, 53) := ⟨⟨by decide +kernel, by decide +kernel⟩, List.mem_of_getElem? (i := 1214) (by decide +kernel), List.mem_of_getElem? (i := 1805) (by decide +kernel), List.mem_of_getElem? (i := 1806) (by decide +kernel)⟩
theorem lw_p98 : lw_okq (⟨"LocksBySongModel", "isParted", "(II)Z"⟩, 53) := ⟨⟨by decide +kernel, by decide +kernel⟩, List.mem_of_getElem? (i := 1214) (by decide +kernel), List.mem_of_getElem? (i := 1809) (by decide +kernel), List.mem_of_getElem? (i := 1810) (by decide +kernel)⟩
theorem lw_p99 : lw_okq (⟨"LocksBySongModel", "bets", "(II)V"⟩, 53) := ⟨⟨by decide +kernel, by decide +kernel⟩, List.mem_of_getElem? (i := 1214) (by decide +kernel), List.mem_of_getElem? (i := 1819) (by decide +kernel), List.mem_of_getElem? (i := 1820) (by decide +kernel)⟩
theorem lw_p100 : lw_okq (⟨"LocksBySongModel", "levels", "()I"⟩, 53) := ⟨⟨by decide +kernel, by decide +kernel⟩, List.mem_of_getElem? (i := 1214) (by decide +kernel), List.mem_of_getElem? (i := 1866) (by decide +kernel), List.mem_of_getElem? (i := 1867) (by decide +kernel)⟩
def lw_privs_7 : List (MethodName × Nat) := [(⟨"LocksBySongModel", "singersOf", "(I)I"⟩, 53), (⟨"LocksBySongModel", "partsBy", "(IIII)I"⟩, 53), (⟨"LocksBySongModel", "isParted", "(II)Z"⟩, 53), (⟨"LocksBySongModel", "bets", "(II)V"⟩, 53), (⟨"LocksBySongModel", "levels", "()I"⟩, 53)]
theorem lw_r7 : ∀ q ∈ lw_privs_7, lw_okq q := List.forall_mem_cons.mpr ⟨lw_p96, List.forall_mem_cons.mpr ⟨lw_p97, List.forall_mem_cons.mpr ⟨lw_p98, List.forall_mem_cons.mpr ⟨lw_p99, List.forall_mem_cons.mpr ⟨lw_p100, fun _ h => absurd h List.not_mem_nil⟩⟩⟩⟩⟩
def lw_privs : List (MethodName × Nat) := lw_privs_1 ++ (lw_privs_2 ++ (lw_privs_3 ++ (lw_privs_4 ++ (lw_privs_5 ++ (lw_privs_6 ++ (lw_privs_7))))))
def lw_tbl : List Cond := k2_sels lw_privs ++ tables_1
theorem lw_privs_ok : ∀ q ∈ lw_privs, lw_okq q := by
  show ∀ q ∈ lw_privs_1 ++ (lw_privs_2 ++ (lw_privs_3 ++ (lw_privs_4 ++ (lw_privs_5 ++ (lw_privs_6 ++ (lw_privs_7)))))), lw_okq q
  exact List.forall_mem_append.mpr ⟨lw_r1, List.forall_mem_append.mpr ⟨lw_r2, List.forall_mem_append.mpr ⟨lw_r3, List.forall_mem_append.mpr ⟨lw_r4, List.forall_mem_append.mpr ⟨lw_r5, List.forall_mem_append.mpr ⟨lw_r6, lw_r7⟩⟩⟩⟩⟩⟩
end
section
def RX0 : String := "LocksBySong$Canal"
def TX0 : u_T := fun k => match k with
  | 0 => ("LocksBySong$Canal", "rule", "LLocksBySong$Rule;", true)
  | 1 => ("LocksBySong$Canal", "chords", "[I", true)
  | 2 => ("LocksBySong$Canal", "held", "[I", true)
  | 3 => ("LocksBySong$Canal", "low", "[I", true)
  | 4 => ("LocksBySong$Canal", "high", "[I", true)
  | 5 => ("LocksBySong$Canal", "fee", "[I", true)
  | 6 => ("LocksBySong$Canal", "load", "[I", true)
  | 7 => ("LocksBySong$Canal", "lockCount", "I", false)
  | 8 => ("LocksBySong$Canal", "singerCount", "I", false)
  | 9 => ("LocksBySong$Canal", "bargeCount", "I", false)
  | _ => ("LocksBySong$Canal", "jammed", "I", false)
def tyX0 : Nat → FieldType := fun k => match k with
  | 0 => .object "LocksBySong$Rule"
  | 1 => .array .int
  | 2 => .array .int
  | 3 => .array .int
  | 4 => .array .int
  | 5 => .array .int
  | 6 => .array .int
  | 7 => .int
  | 8 => .int
  | 9 => .int
  | _ => .int
abbrev wsX00 : List Cond := u_ws RX0 TX0 11
theorem nmX0 : ∀ a, a < 11 → ∀ b, b < 11 → a ≠ b → (TX0 a).2.1 ≠ (TX0 b).2.1 := by decide +kernel
theorem tyX0_ok : ∀ k, k < 11 → parseFieldDescriptor (TX0 k).2.2.1 = some (tyX0 k) := by decide +kernel
abbrev cX0_init : ByteArray := prog_2_method_1_code
def yX0_init : MethodName := ⟨RX0, "<init>", "()V"⟩
abbrev cX0_hasLock : ByteArray := prog_2_method_2_code
def yX0_hasLock : MethodName := ⟨RX0, "hasLock", "(I)Z"⟩
abbrev cX0_hasPlace : ByteArray := prog_2_method_3_code
def yX0_hasPlace : MethodName := ⟨RX0, "hasPlace", "(I)Z"⟩
abbrev cX0_hasSinger : ByteArray := prog_2_method_4_code
def yX0_hasSinger : MethodName := ⟨RX0, "hasSinger", "(I)Z"⟩
abbrev cX0_hasBarge : ByteArray := prog_2_method_5_code
def yX0_hasBarge : MethodName := ⟨RX0, "hasBarge", "(I)Z"⟩
abbrev cX0_many : ByteArray := prog_2_method_6_code
def yX0_many : MethodName := ⟨RX0, "many", "(I)I"⟩
abbrev cX0_room : ByteArray := prog_2_method_7_code
def yX0_room : MethodName := ⟨RX0, "room", "(I)I"⟩
abbrev cX0_grow : ByteArray := prog_2_method_8_code
def yX0_grow : MethodName := ⟨RX0, "grow", "(II)V"⟩
abbrev cX0_readLine : ByteArray := prog_2_method_9_code
def yX0_readLine : MethodName := ⟨RX0, "readLine", "(IILLocksBySong$Script;LLocksBySong$Moment;)Z"⟩
abbrev cX0_readLock : ByteArray := prog_2_method_10_code
def yX0_readLock : MethodName := ⟨RX0, "readLock", "(ILLocksBySong$Script;)Z"⟩
abbrev cX0_readSinger : ByteArray := prog_2_method_11_code
def yX0_readSinger : MethodName := ⟨RX0, "readSinger", "(ILLocksBySong$Script;LLocksBySong$Moment;)Z"⟩
abbrev cX0_readBarge : ByteArray := prog_2_method_12_code
def yX0_readBarge : MethodName := ⟨RX0, "readBarge", "(ILLocksBySong$Script;LLocksBySong$Moment;)Z"⟩
abbrev cX0_readPlace : ByteArray := prog_2_method_13_code
def yX0_readPlace : MethodName := ⟨RX0, "readPlace", "(LLocksBySong$Script;)I"⟩
abbrev cX0_takeFees : ByteArray := prog_2_method_14_code
def yX0_takeFees : MethodName := ⟨RX0, "takeFees", "(IIII)I"⟩
abbrev cX0_narrowed : ByteArray := prog_2_method_15_code
def yX0_narrowed : MethodName := ⟨RX0, "narrowed", "(II)I"⟩
abbrev cX0_crewOf : ByteArray := prog_2_method_16_code
def yX0_crewOf : MethodName := ⟨RX0, "crewOf", "(LLocksBySong$Moment;I)I"⟩
abbrev cX0_freeAt : ByteArray := prog_2_method_17_code
def yX0_freeAt : MethodName := ⟨RX0, "freeAt", "(LLocksBySong$Moment;I)I"⟩
abbrev cX0_tiredOf : ByteArray := prog_2_method_18_code
def yX0_tiredOf : MethodName := ⟨RX0, "tiredOf", "(LLocksBySong$Moment;I)I"⟩
abbrev cX0_feesOf : ByteArray := prog_2_method_19_code
def yX0_feesOf : MethodName := ⟨RX0, "feesOf", "(I)I"⟩
abbrev cX0_ableToSing : ByteArray := prog_2_method_20_code
def yX0_ableToSing : MethodName := ⟨RX0, "ableToSing", "(LLocksBySong$Moment;I)I"⟩
abbrev cX0_chordBits : ByteArray := prog_2_method_21_code
def yX0_chordBits : MethodName := ⟨RX0, "chordBits", "(I)I"⟩
def RX1 : String := "LocksBySong$Choir"
def TX1 : u_T := fun k => match k with
  | 0 => ("LocksBySong$Choir", "canal", "LLocksBySong$Canal;", true)
  | 1 => ("LocksBySong$Choir", "able", "[I", true)
  | _ => ("LocksBySong$Choir", "song", "[I", true)
def tyX1 : Nat → FieldType := fun k => match k with
  | 0 => .object "LocksBySong$Canal"
  | 1 => .array .int
  | _ => .array .int
abbrev wsX10 : List Cond := u_ws RX1 TX1 3
theorem nmX1 : ∀ a, a < 3 → ∀ b, b < 3 → a ≠ b → (TX1 a).2.1 ≠ (TX1 b).2.1 := by decide +kernel
theorem tyX1_ok : ∀ k, k < 3 → parseFieldDescriptor (TX1 k).2.2.1 = some (tyX1 k) := by decide +kernel
abbrev cX1_init : ByteArray := prog_3_method_1_code
def yX1_init : MethodName := ⟨RX1, "<init>", "(LLocksBySong$Canal;)V"⟩
abbrev cX1_gather : ByteArray := prog_3_method_2_code
def yX1_gather : MethodName := ⟨RX1, "gather", "(LLocksBySong$Moment;II)V"⟩
abbrev cX1_placeOf : ByteArray := prog_3_method_3_code
def yX1_placeOf : MethodName := ⟨RX1, "placeOf", "(I)I"⟩
abbrev cX1_canSing : ByteArray := prog_3_method_4_code
def yX1_canSing : MethodName := ⟨RX1, "canSing", "(II)Z"⟩
abbrev cX1_settle : ByteArray := prog_3_method_5_code
def yX1_settle : MethodName := ⟨RX1, "settle", "(I)Z"⟩
abbrev cX1_firstFor : ByteArray := prog_3_method_6_code
def yX1_firstFor : MethodName := ⟨RX1, "firstFor", "(III)I"⟩
abbrev cX1_mostNotes : ByteArray := prog_3_method_7_code
def yX1_mostNotes : MethodName := ⟨RX1, "mostNotes", "(I)I"⟩
abbrev cX1_fewestMissed : ByteArray := prog_3_method_8_code
def yX1_fewestMissed : MethodName := ⟨RX1, "fewestMissed", "(I)I"⟩
def RX2 : String := "LocksBySong$Hiring"
def TX2 : u_T := fun k => match k with
  | 0 => ("LocksBySong$Hiring", "canal", "LLocksBySong$Canal;", true)
  | 1 => ("LocksBySong$Hiring", "choir", "LLocksBySong$Choir;", true)
  | _ => ("LocksBySong$Hiring", "works", "[Z", true)
def tyX2 : Nat → FieldType := fun k => match k with
  | 0 => .object "LocksBySong$Canal"
  | 1 => .object "LocksBySong$Choir"
  | _ => .array .boolean
abbrev wsX20 : List Cond := u_ws RX2 TX2 3
theorem nmX2 : ∀ a, a < 3 → ∀ b, b < 3 → a ≠ b → (TX2 a).2.1 ≠ (TX2 b).2.1 := by decide +kernel
theorem tyX2_ok : ∀ k, k < 3 → parseFieldDescriptor (TX2 k).2.2.1 = some (tyX2 k) := by decide +kernel
abbrev cX2_init : ByteArray := prog_4_method_1_code
def yX2_init : MethodName := ⟨RX2, "<init>", "(LLocksBySong$Canal;LLocksBySong$Choir;)V"⟩
abbrev cX2_begin : ByteArray := prog_4_method_2_code
def yX2_begin : MethodName := ⟨RX2, "begin", "()V"⟩
abbrev cX2_mustSing : ByteArray := prog_4_method_3_code
def yX2_mustSing : MethodName := ⟨RX2, "mustSing", "(LLocksBySong$Moment;III)V"⟩
abbrev cX2_cheapest : ByteArray := prog_4_method_4_code
def yX2_cheapest : MethodName := ⟨RX2, "cheapest", "(I)I"⟩
abbrev cX2_isBetter : ByteArray := prog_4_method_5_code
def yX2_isBetter : MethodName := ⟨RX2, "isBetter", "(II)Z"⟩
def RX3 : String := "LocksBySong$Moment"
def TX3 : u_T := fun k => match k with
  | 0 => ("LocksBySong$Moment", "levels", "I", false)
  | 1 => ("LocksBySong$Moment", "water", "I", false)
  | 2 => ("LocksBySong$Moment", "minute", "I", false)
  | 3 => ("LocksBySong$Moment", "place", "[I", true)
  | 4 => ("LocksBySong$Moment", "boat", "[I", true)
  | 5 => ("LocksBySong$Moment", "tired", "[I", true)
  | 6 => ("LocksBySong$Moment", "berth", "[I", true)
  | _ => ("LocksBySong$Moment", "purse", "[I", true)
def tyX3 : Nat → FieldType := fun k => match k with
  | 0 => .int
  | 1 => .int
  | 2 => .int
  | 3 => .array .int
  | 4 => .array .int
  | 5 => .array .int
  | 6 => .array .int
  | _ => .array .int
abbrev wsX30 : List Cond := u_ws RX3 TX3 8
theorem nmX3 : ∀ a, a < 8 → ∀ b, b < 8 → a ≠ b → (TX3 a).2.1 ≠ (TX3 b).2.1 := by decide +kernel
theorem tyX3_ok : ∀ k, k < 8 → parseFieldDescriptor (TX3 k).2.2.1 = some (tyX3 k) := by decide +kernel
abbrev cX3_init : ByteArray := prog_5_method_1_code
def yX3_init : MethodName := ⟨RX3, "<init>", "()V"⟩
abbrev cX3_copy : ByteArray := prog_5_method_2_code
def yX3_copy : MethodName := ⟨RX3, "copy", "(LLocksBySong$Moment;)V"⟩
abbrev cX3_levelOf : ByteArray := prog_5_method_3_code
def yX3_levelOf : MethodName := ⟨RX3, "levelOf", "(I)I"⟩
abbrev cX3_setLevel : ByteArray := prog_5_method_4_code
def yX3_setLevel : MethodName := ⟨RX3, "setLevel", "(II)V"⟩
abbrev cX3_whereIs : ByteArray := prog_5_method_5_code
def yX3_whereIs : MethodName := ⟨RX3, "whereIs", "(I)I"⟩
abbrev cX3_letGoBy : ByteArray := prog_5_method_6_code
def yX3_letGoBy : MethodName := ⟨RX3, "letGoBy", "(I)V"⟩
def RX4 : String := "LocksBySong$Night"
def TX4 : u_T := fun k => match k with
  | 0 => ("LocksBySong$Night", "canal", "LLocksBySong$Canal;", true)
  | 1 => ("LocksBySong$Night", "apart", "[I", true)
  | 2 => ("LocksBySong$Night", "sung", "I", false)
  | 3 => ("LocksBySong$Night", "unsung", "I", false)
  | 4 => ("LocksBySong$Night", "size", "I", false)
  | _ => ("LocksBySong$Night", "pairs", "I", false)
def tyX4 : Nat → FieldType := fun k => match k with
  | 0 => .object "LocksBySong$Canal"
  | 1 => .array .int
  | 2 => .int
  | 3 => .int
  | 4 => .int
  | _ => .int
abbrev wsX40 : List Cond := u_ws RX4 TX4 6
theorem nmX4 : ∀ a, a < 6 → ∀ b, b < 6 → a ≠ b → (TX4 a).2.1 ≠ (TX4 b).2.1 := by decide +kernel
theorem tyX4_ok : ∀ k, k < 6 → parseFieldDescriptor (TX4 k).2.2.1 = some (tyX4 k) := by decide +kernel
abbrev cX4_init : ByteArray := prog_6_method_1_code
def yX4_init : MethodName := ⟨RX4, "<init>", "(LLocksBySong$Canal;)V"⟩
abbrev cX4_size : ByteArray := prog_6_method_2_code
def yX4_size : MethodName := ⟨RX4, "size", "()I"⟩
abbrev cX4_clear : ByteArray := prog_6_method_3_code
def yX4_clear : MethodName := ⟨RX4, "clear", "()V"⟩
abbrev cX4_note : ByteArray := prog_6_method_4_code
def yX4_note : MethodName := ⟨RX4, "note", "(II)Z"⟩
abbrev cX4_hasInRange : ByteArray := prog_6_method_5_code
def yX4_hasInRange : MethodName := ⟨RX4, "hasInRange", "(II)Z"⟩
abbrev cX4_fitting : ByteArray := prog_6_method_6_code
def yX4_fitting : MethodName := ⟨RX4, "fitting", "()I"⟩
abbrev cX4_leftAtMost : ByteArray := prog_6_method_7_code
def yX4_leftAtMost : MethodName := ⟨RX4, "leftAtMost", "(II)I"⟩
abbrev cX4_parting : ByteArray := prog_6_method_8_code
def yX4_parting : MethodName := ⟨RX4, "parting", "()I"⟩
abbrev cX4_findPairs : ByteArray := prog_6_method_9_code
def yX4_findPairs : MethodName := ⟨RX4, "findPairs", "(I)V"⟩
abbrev cX4_allApart : ByteArray := prog_6_method_10_code
def yX4_allApart : MethodName := ⟨RX4, "allApart", "()Z"⟩
abbrev cX4_markPair : ByteArray := prog_6_method_11_code
def yX4_markPair : MethodName := ⟨RX4, "markPair", "(III)V"⟩
abbrev cX4_partingBy : ByteArray := prog_6_method_12_code
def yX4_partingBy : MethodName := ⟨RX4, "partingBy", "(III)I"⟩
def RX5 : String := "LocksBySong$Numbers"
def TX5 : u_T := fun k => match k with
  | 0 => ("LocksBySong$Numbers", "numbers", "[J", true)
  | _ => ("LocksBySong$Numbers", "size", "I", false)
def tyX5 : Nat → FieldType := fun k => match k with
  | 0 => .array .long
  | _ => .int
abbrev wsX50 : List Cond := u_ws RX5 TX5 2
theorem nmX5 : ∀ a, a < 2 → ∀ b, b < 2 → a ≠ b → (TX5 a).2.1 ≠ (TX5 b).2.1 := by decide +kernel
theorem tyX5_ok : ∀ k, k < 2 → parseFieldDescriptor (TX5 k).2.2.1 = some (tyX5 k) := by decide +kernel
abbrev cX5_init : ByteArray := prog_7_method_1_code
def yX5_init : MethodName := ⟨RX5, "<init>", "()V"⟩
abbrev cX5_size : ByteArray := prog_7_method_2_code
def yX5_size : MethodName := ⟨RX5, "size", "()I"⟩
abbrev cX5_at : ByteArray := prog_7_method_3_code
def yX5_at : MethodName := ⟨RX5, "at", "(I)J"⟩
abbrev cX5_clear : ByteArray := prog_7_method_4_code
def yX5_clear : MethodName := ⟨RX5, "clear", "()V"⟩
abbrev cX5_add : ByteArray := prog_7_method_5_code
def yX5_add : MethodName := ⟨RX5, "add", "(J)V"⟩
abbrev cX5_tell : ByteArray := prog_7_method_6_code
def yX5_tell : MethodName := ⟨RX5, "tell", "(J)V"⟩
def RX6 : String := "LocksBySong$Past"
def TX6 : u_T := fun k => match k with
  | 0 => ("LocksBySong$Past", "moments", "[LLocksBySong$Moment;", true)
  | 1 => ("LocksBySong$Past", "first", "I", false)
  | _ => ("LocksBySong$Past", "size", "I", false)
def tyX6 : Nat → FieldType := fun k => match k with
  | 0 => .array (.object "LocksBySong$Moment")
  | 1 => .int
  | _ => .int
abbrev wsX60 : List Cond := u_ws RX6 TX6 3
theorem nmX6 : ∀ a, a < 3 → ∀ b, b < 3 → a ≠ b → (TX6 a).2.1 ≠ (TX6 b).2.1 := by decide +kernel
theorem tyX6_ok : ∀ k, k < 3 → parseFieldDescriptor (TX6 k).2.2.1 = some (tyX6 k) := by decide +kernel
abbrev cX6_init : ByteArray := prog_8_method_1_code
def yX6_init : MethodName := ⟨RX6, "<init>", "()V"⟩
abbrev cX6_size : ByteArray := prog_8_method_2_code
def yX6_size : MethodName := ⟨RX6, "size", "()I"⟩
abbrev cX6_clear : ByteArray := prog_8_method_3_code
def yX6_clear : MethodName := ⟨RX6, "clear", "()V"⟩
abbrev cX6_add : ByteArray := prog_8_method_4_code
def yX6_add : MethodName := ⟨RX6, "add", "(LLocksBySong$Moment;)V"⟩
abbrev cX6_takeBack : ByteArray := prog_8_method_5_code
def yX6_takeBack : MethodName := ⟨RX6, "takeBack", "(LLocksBySong$Moment;)Z"⟩
def RX7 : String := "LocksBySong$Rule"
def TX7 : u_T := fun k => match k with
  | 0 => ("LocksBySong$Rule", "code", "[I", true)
  | 1 => ("LocksBySong$Rule", "draft", "[I", true)
  | 2 => ("LocksBySong$Rule", "stack", "[I", true)
  | 3 => ("LocksBySong$Rule", "things", "[I", true)
  | 4 => ("LocksBySong$Rule", "size", "I", false)
  | _ => ("LocksBySong$Rule", "drafted", "I", false)
def tyX7 : Nat → FieldType := fun k => match k with
  | 0 => .array .int
  | 1 => .array .int
  | 2 => .array .int
  | 3 => .array .int
  | 4 => .int
  | _ => .int
abbrev wsX70 : List Cond := u_ws RX7 TX7 6
theorem nmX7 : ∀ a, a < 6 → ∀ b, b < 6 → a ≠ b → (TX7 a).2.1 ≠ (TX7 b).2.1 := by decide +kernel
theorem tyX7_ok : ∀ k, k < 6 → parseFieldDescriptor (TX7 k).2.2.1 = some (tyX7 k) := by decide +kernel
abbrev cX7_init : ByteArray := prog_9_method_1_code
def yX7_init : MethodName := ⟨RX7, "<init>", "()V"⟩
abbrev cX7_read : ByteArray := prog_9_method_2_code
def yX7_read : MethodName := ⟨RX7, "read", "(LLocksBySong$Script;)I"⟩
abbrev cX7_put : ByteArray := prog_9_method_3_code
def yX7_put : MethodName := ⟨RX7, "put", "(II)V"⟩
abbrev cX7_minutes : ByteArray := prog_9_method_4_code
def yX7_minutes : MethodName := ⟨RX7, "minutes", "()I"⟩
abbrev cX7_comparison : ByteArray := prog_9_method_5_code
def yX7_comparison : MethodName := ⟨RX7, "comparison", "(LLocksBySong$Script;I)Z"⟩
abbrev cX7_sum : ByteArray := prog_9_method_6_code
def yX7_sum : MethodName := ⟨RX7, "sum", "(LLocksBySong$Script;I)Z"⟩
abbrev cX7_product : ByteArray := prog_9_method_7_code
def yX7_product : MethodName := ⟨RX7, "product", "(LLocksBySong$Script;I)Z"⟩
abbrev cX7_negated : ByteArray := prog_9_method_8_code
def yX7_negated : MethodName := ⟨RX7, "negated", "(LLocksBySong$Script;I)Z"⟩
abbrev cX7_thing : ByteArray := prog_9_method_9_code
def yX7_thing : MethodName := ⟨RX7, "thing", "(LLocksBySong$Script;I)Z"⟩
abbrev cX7_emit : ByteArray := prog_9_method_10_code
def yX7_emit : MethodName := ⟨RX7, "emit", "(I)Z"⟩
abbrev cX7_worth : ByteArray := prog_9_method_11_code
def yX7_worth : MethodName := ⟨RX7, "worth", "()I"⟩
abbrev cX7_joined : ByteArray := prog_9_method_12_code
def yX7_joined : MethodName := ⟨RX7, "joined", "(III)I"⟩
def RX8 : String := "LocksBySong$Script"
def TX8 : u_T := fun k => match k with
  | 0 => ("LocksBySong$Script", "signs", "[I", true)
  | 1 => ("LocksBySong$Script", "size", "I", false)
  | 2 => ("LocksBySong$Script", "cursor", "I", false)
  | _ => ("LocksBySong$Script", "bound", "I", false)
def tyX8 : Nat → FieldType := fun k => match k with
  | 0 => .array .int
  | 1 => .int
  | 2 => .int
  | _ => .int
abbrev wsX80 : List Cond := u_ws RX8 TX8 4
theorem nmX8 : ∀ a, a < 4 → ∀ b, b < 4 → a ≠ b → (TX8 a).2.1 ≠ (TX8 b).2.1 := by decide +kernel
theorem tyX8_ok : ∀ k, k < 4 → parseFieldDescriptor (TX8 k).2.2.1 = some (tyX8 k) := by decide +kernel
abbrev cX8_init : ByteArray := prog_10_method_1_code
def yX8_init : MethodName := ⟨RX8, "<init>", "()V"⟩
abbrev cX8_length : ByteArray := prog_10_method_2_code
def yX8_length : MethodName := ⟨RX8, "length", "()I"⟩
abbrev cX8_addFour : ByteArray := prog_10_method_3_code
def yX8_addFour : MethodName := ⟨RX8, "addFour", "(I)Z"⟩
abbrev cX8_cutTo : ByteArray := prog_10_method_4_code
def yX8_cutTo : MethodName := ⟨RX8, "cutTo", "(I)Z"⟩
abbrev cX8_clear : ByteArray := prog_10_method_5_code
def yX8_clear : MethodName := ⟨RX8, "clear", "()V"⟩
abbrev cX8_open : ByteArray := prog_10_method_6_code
def yX8_open : MethodName := ⟨RX8, "open", "(I)V"⟩
abbrev cX8_look : ByteArray := prog_10_method_7_code
def yX8_look : MethodName := ⟨RX8, "look", "()I"⟩
abbrev cX8_step : ByteArray := prog_10_method_8_code
def yX8_step : MethodName := ⟨RX8, "step", "()V"⟩
abbrev cX8_over : ByteArray := prog_10_method_9_code
def yX8_over : MethodName := ⟨RX8, "over", "()Z"⟩
abbrev cX8_fault : ByteArray := prog_10_method_10_code
def yX8_fault : MethodName := ⟨RX8, "fault", "()I"⟩
abbrev cX8_take : ByteArray := prog_10_method_11_code
def yX8_take : MethodName := ⟨RX8, "take", "(II)I"⟩
abbrev cX8_takeNumber : ByteArray := prog_10_method_12_code
def yX8_takeNumber : MethodName := ⟨RX8, "takeNumber", "(I)I"⟩
def RX9 : String := "LocksBySong$Voyage"
def TX9 : u_T := fun k => match k with
  | 0 => ("LocksBySong$Voyage", "canal", "LLocksBySong$Canal;", true)
  | 1 => ("LocksBySong$Voyage", "choir", "LLocksBySong$Choir;", true)
  | 2 => ("LocksBySong$Voyage", "upChord", "[I", true)
  | 3 => ("LocksBySong$Voyage", "downChord", "[I", true)
  | _ => ("LocksBySong$Voyage", "passed", "I", false)
def tyX9 : Nat → FieldType := fun k => match k with
  | 0 => .object "LocksBySong$Canal"
  | 1 => .object "LocksBySong$Choir"
  | 2 => .array .int
  | 3 => .array .int
  | _ => .int
abbrev wsX90 : List Cond := u_ws RX9 TX9 5
theorem nmX9 : ∀ a, a < 5 → ∀ b, b < 5 → a ≠ b → (TX9 a).2.1 ≠ (TX9 b).2.1 := by decide +kernel
theorem tyX9_ok : ∀ k, k < 5 → parseFieldDescriptor (TX9 k).2.2.1 = some (tyX9 k) := by decide +kernel
abbrev cX9_init : ByteArray := prog_11_method_1_code
def yX9_init : MethodName := ⟨RX9, "<init>", "(LLocksBySong$Canal;LLocksBySong$Choir;)V"⟩
abbrev cX9_way : ByteArray := prog_11_method_2_code
def yX9_way : MethodName := ⟨RX9, "way", "(LLocksBySong$Moment;II)I"⟩
abbrev cX9_lockAhead : ByteArray := prog_11_method_3_code
def yX9_lockAhead : MethodName := ⟨RX9, "lockAhead", "(LLocksBySong$Moment;II)I"⟩
abbrev cX9_hindrance : ByteArray := prog_11_method_4_code
def yX9_hindrance : MethodName := ⟨RX9, "hindrance", "(LLocksBySong$Moment;II)I"⟩
abbrev cX9_waterFor : ByteArray := prog_11_method_5_code
def yX9_waterFor : MethodName := ⟨RX9, "waterFor", "(LLocksBySong$Moment;II)I"⟩
abbrev cX9_go : ByteArray := prog_11_method_6_code
def yX9_go : MethodName := ⟨RX9, "go", "(LLocksBySong$Moment;II)I"⟩
abbrev cX9_minutesFor : ByteArray := prog_11_method_7_code
def yX9_minutesFor : MethodName := ⟨RX9, "minutesFor", "(LLocksBySong$Moment;III)I"⟩
abbrev cX9_travel : ByteArray := prog_11_method_8_code
def yX9_travel : MethodName := ⟨RX9, "travel", "(LLocksBySong$Moment;II)I"⟩
abbrev cX9_findWays : ByteArray := prog_11_method_9_code
def yX9_findWays : MethodName := ⟨RX9, "findWays", "(LLocksBySong$Moment;)V"⟩
abbrev cX9_chordAhead : ByteArray := prog_11_method_10_code
def yX9_chordAhead : MethodName := ⟨RX9, "chordAhead", "(LLocksBySong$Moment;II)I"⟩
abbrev cX9_keptBy : ByteArray := prog_11_method_11_code
def yX9_keptBy : MethodName := ⟨RX9, "keptBy", "(I)I"⟩
def RX10 : String := "LocksBySong$Waiting"
def TX10 : u_T := fun k => match k with
  | 0 => ("LocksBySong$Waiting", "ups", "[I", true)
  | 1 => ("LocksBySong$Waiting", "downs", "[I", true)
  | 2 => ("LocksBySong$Waiting", "costs", "[I", true)
  | 3 => ("LocksBySong$Waiting", "upCount", "I", false)
  | _ => ("LocksBySong$Waiting", "downCount", "I", false)
def tyX10 : Nat → FieldType := fun k => match k with
  | 0 => .array .int
  | 1 => .array .int
  | 2 => .array .int
  | 3 => .int
  | _ => .int
abbrev wsX100 : List Cond := u_ws RX10 TX10 5
theorem nmX10 : ∀ a, a < 5 → ∀ b, b < 5 → a ≠ b → (TX10 a).2.1 ≠ (TX10 b).2.1 := by decide +kernel
theorem tyX10_ok : ∀ k, k < 5 → parseFieldDescriptor (TX10 k).2.2.1 = some (tyX10 k) := by decide +kernel
abbrev cX10_init : ByteArray := prog_12_method_1_code
def yX10_init : MethodName := ⟨RX10, "<init>", "()V"⟩
abbrev cX10_read : ByteArray := prog_12_method_2_code
def yX10_read : MethodName := ⟨RX10, "read", "(LLocksBySong$Script;)I"⟩
abbrev cX10_order : ByteArray := prog_12_method_3_code
def yX10_order : MethodName := ⟨RX10, "order", "(ILLocksBySong$Numbers;)I"⟩
abbrev cX10_goesUpNext : ByteArray := prog_12_method_4_code
def yX10_goesUpNext : MethodName := ⟨RX10, "goesUpNext", "(III)Z"⟩
abbrev cX10_findCosts : ByteArray := prog_12_method_5_code
def yX10_findCosts : MethodName := ⟨RX10, "findCosts", "()V"⟩
abbrev cX10_costNext : ByteArray := prog_12_method_6_code
def yX10_costNext : MethodName := ⟨RX10, "costNext", "(III)I"⟩
abbrev cX10_upCost : ByteArray := prog_12_method_7_code
def yX10_upCost : MethodName := ⟨RX10, "upCost", "(III)I"⟩
abbrev cX10_downCost : ByteArray := prog_12_method_8_code
def yX10_downCost : MethodName := ⟨RX10, "downCost", "(III)I"⟩
abbrev cX10_costAfter : ByteArray := prog_12_method_9_code
def yX10_costAfter : MethodName := ⟨RX10, "costAfter", "(III)I"⟩
abbrev cX10_slot : ByteArray := prog_12_method_10_code
def yX10_slot : MethodName := ⟨RX10, "slot", "(III)I"⟩
def RX11 : String := "LocksBySong"
def TX11 : u_T := fun k => match k with
  | 0 => ("LocksBySong", "text", "LLocksBySong$Script;", true)
  | 1 => ("LocksBySong", "told", "LLocksBySong$Numbers;", true)
  | 2 => ("LocksBySong", "canal", "LLocksBySong$Canal;", true)
  | 3 => ("LocksBySong", "now", "LLocksBySong$Moment;", true)
  | 4 => ("LocksBySong", "before", "LLocksBySong$Moment;", true)
  | 5 => ("LocksBySong", "trial", "LLocksBySong$Moment;", true)
  | 6 => ("LocksBySong", "choir", "LLocksBySong$Choir;", true)
  | 7 => ("LocksBySong", "voyage", "LLocksBySong$Voyage;", true)
  | 8 => ("LocksBySong", "hiring", "LLocksBySong$Hiring;", true)
  | 9 => ("LocksBySong", "night", "LLocksBySong$Night;", true)
  | 10 => ("LocksBySong", "waiting", "LLocksBySong$Waiting;", true)
  | 11 => ("LocksBySong", "past", "LLocksBySong$Past;", true)
  | 12 => ("LocksBySong", "kept", "[LLocksBySong$Moment;", true)
  | 13 => ("LocksBySong", "acts", "[I", true)
  | _ => ("LocksBySong", "keptBits", "I", false)
def tyX11 : Nat → FieldType := fun k => match k with
  | 0 => .object "LocksBySong$Script"
  | 1 => .object "LocksBySong$Numbers"
  | 2 => .object "LocksBySong$Canal"
  | 3 => .object "LocksBySong$Moment"
  | 4 => .object "LocksBySong$Moment"
  | 5 => .object "LocksBySong$Moment"
  | 6 => .object "LocksBySong$Choir"
  | 7 => .object "LocksBySong$Voyage"
  | 8 => .object "LocksBySong$Hiring"
  | 9 => .object "LocksBySong$Night"
  | 10 => .object "LocksBySong$Waiting"
  | 11 => .object "LocksBySong$Past"
  | 12 => .array (.object "LocksBySong$Moment")
  | 13 => .array .int
  | _ => .int
abbrev wsX110 : List Cond := u_ws RX11 TX11 15
theorem nmX11 : ∀ a, a < 15 → ∀ b, b < 15 → a ≠ b → (TX11 a).2.1 ≠ (TX11 b).2.1 := by decide +kernel
theorem tyX11_ok : ∀ k, k < 15 → parseFieldDescriptor (TX11 k).2.2.1 = some (tyX11 k) := by decide +kernel
abbrev cX11_init : ByteArray := prog_1_method_1_code
def yX11_init : MethodName := ⟨RX11, "<init>", "()V"⟩
abbrev cX11_sign : ByteArray := prog_1_method_2_code
def yX11_sign : MethodName := ⟨RX11, "sign", "(I)I"⟩
abbrev cX11_end : ByteArray := prog_1_method_3_code
def yX11_end : MethodName := ⟨RX11, "end", "(I)Z"⟩
abbrev cX11_locks : ByteArray := prog_1_method_4_code
def yX11_locks : MethodName := ⟨RX11, "locks", "()I"⟩
abbrev cX11_singers : ByteArray := prog_1_method_5_code
def yX11_singers : MethodName := ⟨RX11, "singers", "()I"⟩
abbrev cX11_barges : ByteArray := prog_1_method_6_code
def yX11_barges : MethodName := ⟨RX11, "barges", "()I"⟩
abbrev cX11_rule : ByteArray := prog_1_method_7_code
def yX11_rule : MethodName := ⟨RX11, "rule", "()I"⟩
abbrev cX11_lock : ByteArray := prog_1_method_8_code
def yX11_lock : MethodName := ⟨RX11, "lock", "(II)I"⟩
abbrev cX11_singer : ByteArray := prog_1_method_9_code
def yX11_singer : MethodName := ⟨RX11, "singer", "(II)I"⟩
abbrev cX11_barge : ByteArray := prog_1_method_10_code
def yX11_barge : MethodName := ⟨RX11, "barge", "(II)I"⟩
abbrev cX11_set : ByteArray := prog_1_method_11_code
def yX11_set : MethodName := ⟨RX11, "set", "(II)I"⟩
abbrev cX11_sheet : ByteArray := prog_1_method_12_code
def yX11_sheet : MethodName := ⟨RX11, "sheet", "(IIII)I"⟩
abbrev cX11_tellOf : ByteArray := prog_1_method_13_code
def yX11_tellOf : MethodName := ⟨RX11, "tellOf", "(II)I"⟩
abbrev cX11_readLines : ByteArray := prog_1_method_14_code
def yX11_readLines : MethodName := ⟨RX11, "readLines", "(I)I"⟩
abbrev cX11_hire : ByteArray := prog_1_method_15_code
def yX11_hire : MethodName := ⟨RX11, "hire", "(II)I"⟩
abbrev cX11_leave : ByteArray := prog_1_method_16_code
def yX11_leave : MethodName := ⟨RX11, "leave", "(I)I"⟩
abbrev cX11_pass : ByteArray := prog_1_method_17_code
def yX11_pass : MethodName := ⟨RX11, "pass", "(II)I"⟩
abbrev cX11_rest : ByteArray := prog_1_method_18_code
def yX11_rest : MethodName := ⟨RX11, "rest", "(I)I"⟩
abbrev cX11_day : ByteArray := prog_1_method_19_code
def yX11_day : MethodName := ⟨RX11, "day", "()I"⟩
abbrev cX11_undo : ByteArray := prog_1_method_20_code
def yX11_undo : MethodName := ⟨RX11, "undo", "()I"⟩
abbrev cX11_remember : ByteArray := prog_1_method_21_code
def yX11_remember : MethodName := ⟨RX11, "remember", "(I)I"⟩
abbrev cX11_takeOn : ByteArray := prog_1_method_22_code
def yX11_takeOn : MethodName := ⟨RX11, "takeOn", "(II)I"⟩
abbrev cX11_letGo : ByteArray := prog_1_method_23_code
def yX11_letGo : MethodName := ⟨RX11, "letGo", "(I)I"⟩
abbrev cX11_takeRest : ByteArray := prog_1_method_24_code
def yX11_takeRest : MethodName := ⟨RX11, "takeRest", "(I)I"⟩
abbrev cX11_readActs : ByteArray := prog_1_method_25_code
def yX11_readActs : MethodName := ⟨RX11, "readActs", "()I"⟩
abbrev cX11_readAct : ByteArray := prog_1_method_26_code
def yX11_readAct : MethodName := ⟨RX11, "readAct", "()I"⟩
abbrev cX11_isPass : ByteArray := prog_1_method_27_code
def yX11_isPass : MethodName := ⟨RX11, "isPass", "(I)Z"⟩
abbrev cX11_perform : ByteArray := prog_1_method_28_code
def yX11_perform : MethodName := ⟨RX11, "perform", "(I)I"⟩
abbrev cX11_sings : ByteArray := prog_1_method_29_code
def yX11_sings : MethodName := ⟨RX11, "sings", "(II)I"⟩
abbrev cX11_lacks : ByteArray := prog_1_method_30_code
def yX11_lacks : MethodName := ⟨RX11, "lacks", "(II)I"⟩
abbrev cX11_spoils : ByteArray := prog_1_method_31_code
def yX11_spoils : MethodName := ⟨RX11, "spoils", "(II)I"⟩
abbrev cX11_shift : ByteArray := prog_1_method_32_code
def yX11_shift : MethodName := ⟨RX11, "shift", "(II)I"⟩
abbrev cX11_voices : ByteArray := prog_1_method_33_code
def yX11_voices : MethodName := ⟨RX11, "voices", "(II)I"⟩
abbrev cX11_singsShifted : ByteArray := prog_1_method_34_code
def yX11_singsShifted : MethodName := ⟨RX11, "singsShifted", "(III)Z"⟩
abbrev cX11_tellSong : ByteArray := prog_1_method_35_code
def yX11_tellSong : MethodName := ⟨RX11, "tellSong", "()V"⟩
abbrev cX11_tellHired : ByteArray := prog_1_method_36_code
def yX11_tellHired : MethodName := ⟨RX11, "tellHired", "(I)I"⟩
abbrev cX11_journey : ByteArray := prog_1_method_37_code
def yX11_journey : MethodName := ⟨RX11, "journey", "(II)I"⟩
abbrev cX11_hires : ByteArray := prog_1_method_38_code
def yX11_hires : MethodName := ⟨RX11, "hires", "(II)I"⟩
abbrev cX11_rested : ByteArray := prog_1_method_39_code
def yX11_rested : MethodName := ⟨RX11, "rested", "(II)I"⟩
abbrev cX11_queue : ByteArray := prog_1_method_40_code
def yX11_queue : MethodName := ⟨RX11, "queue", "(I)I"⟩
abbrev cX11_jams : ByteArray := prog_1_method_41_code
def yX11_jams : MethodName := ⟨RX11, "jams", "()I"⟩
abbrev cX11_heard : ByteArray := prog_1_method_42_code
def yX11_heard : MethodName := ⟨RX11, "heard", "(II)I"⟩
abbrev cX11_forget : ByteArray := prog_1_method_43_code
def yX11_forget : MethodName := ⟨RX11, "forget", "()I"⟩
abbrev cX11_who : ByteArray := prog_1_method_44_code
def yX11_who : MethodName := ⟨RX11, "who", "()I"⟩
abbrev cX11_listen : ByteArray := prog_1_method_45_code
def yX11_listen : MethodName := ⟨RX11, "listen", "()I"⟩
abbrev cX11_parts : ByteArray := prog_1_method_46_code
def yX11_parts : MethodName := ⟨RX11, "parts", "()I"⟩
abbrev cX11_opens : ByteArray := prog_1_method_47_code
def yX11_opens : MethodName := ⟨RX11, "opens", "(II)I"⟩
abbrev cX11_tries : ByteArray := prog_1_method_48_code
def yX11_tries : MethodName := ⟨RX11, "tries", "(II)I"⟩
abbrev cX11_rests : ByteArray := prog_1_method_49_code
def yX11_rests : MethodName := ⟨RX11, "rests", "(I)I"⟩
abbrev cX11_pays : ByteArray := prog_1_method_50_code
def yX11_pays : MethodName := ⟨RX11, "pays", "(II)I"⟩
abbrev cX11_tellFirstPair : ByteArray := prog_1_method_51_code
def yX11_tellFirstPair : MethodName := ⟨RX11, "tellFirstPair", "(III)V"⟩
abbrev cX11_chances : ByteArray := prog_1_method_52_code
def yX11_chances : MethodName := ⟨RX11, "chances", "(II)J"⟩
abbrev cX11_power : ByteArray := prog_1_method_53_code
def yX11_power : MethodName := ⟨RX11, "power", "(JI)J"⟩
abbrev cX11_commonDivisor : ByteArray := prog_1_method_54_code
def yX11_commonDivisor : MethodName := ⟨RX11, "commonDivisor", "(JJ)J"⟩
abbrev cX11_isBest : ByteArray := prog_1_method_55_code
def yX11_isBest : MethodName := ⟨RX11, "isBest", "(III)Z"⟩
abbrev cX11_gain : ByteArray := prog_1_method_56_code
def yX11_gain : MethodName := ⟨RX11, "gain", "(III)I"⟩
abbrev cX11_days : ByteArray := prog_1_method_57_code
def yX11_days : MethodName := ⟨RX11, "days", "(II)I"⟩
abbrev cX11_drawNext : ByteArray := prog_1_method_58_code
def yX11_drawNext : MethodName := ⟨RX11, "drawNext", "(I)I"⟩
abbrev cX11_keep : ByteArray := prog_1_method_59_code
def yX11_keep : MethodName := ⟨RX11, "keep", "(I)Z"⟩
abbrev cX11_again : ByteArray := prog_1_method_60_code
def yX11_again : MethodName := ⟨RX11, "again", "(I)Z"⟩
abbrev cX11_count : ByteArray := prog_1_method_61_code
def yX11_count : MethodName := ⟨RX11, "count", "(I)I"⟩
abbrev cX11_row : ByteArray := prog_1_method_62_code
def yX11_row : MethodName := ⟨RX11, "row", "(I)J"⟩
def RX12 : String := "LocksBySongModel"
def TX12 : u_T := fun k => match k with
  | 0 => ("LocksBySongModel", "thrown", "I", false)
  | 1 => ("LocksBySongModel", "rows", "I", false)
  | 2 => ("LocksBySongModel", "row", "[J", true)
  | 3 => ("LocksBySongModel", "locks", "I", false)
  | 4 => ("LocksBySongModel", "singers", "I", false)
  | 5 => ("LocksBySongModel", "barges", "I", false)
  | 6 => ("LocksBySongModel", "jammed", "I", false)
  | 7 => ("LocksBySongModel", "changes", "I", false)
  | 8 => ("LocksBySongModel", "chord", "[I", true)
  | 9 => ("LocksBySongModel", "held", "[I", true)
  | 10 => ("LocksBySongModel", "low", "[I", true)
  | 11 => ("LocksBySongModel", "high", "[I", true)
  | 12 => ("LocksBySongModel", "fee", "[I", true)
  | 13 => ("LocksBySongModel", "load", "[I", true)
  | 14 => ("LocksBySongModel", "now", "[I", true)
  | 15 => ("LocksBySongModel", "then", "[I", true)
  | 16 => ("LocksBySongModel", "tape", "[I", true)
  | 17 => ("LocksBySongModel", "taped", "I", false)
  | 18 => ("LocksBySongModel", "at", "I", false)
  | 19 => ("LocksBySongModel", "to", "I", false)
  | 20 => ("LocksBySongModel", "nest", "I", false)
  | 21 => ("LocksBySongModel", "read", "[I", true)
  | 22 => ("LocksBySongModel", "readMany", "I", false)
  | 23 => ("LocksBySongModel", "code", "[I", true)
  | 24 => ("LocksBySongModel", "readCode", "[I", true)
  | 25 => ("LocksBySongModel", "codeLong", "I", false)
  | 26 => ("LocksBySongModel", "readLong", "I", false)
  | 27 => ("LocksBySongModel", "stack", "[I", true)
  | 28 => ("LocksBySongModel", "asked", "[I", true)
  | 29 => ("LocksBySongModel", "notes", "[I", true)
  | 30 => ("LocksBySongModel", "sung", "[I", true)
  | 31 => ("LocksBySongModel", "undos", "I", false)
  | 32 => ("LocksBySongModel", "undone", "[I", true)
  | 33 => ("LocksBySongModel", "actSign", "[I", true)
  | 34 => ("LocksBySongModel", "actOne", "[I", true)
  | 35 => ("LocksBySongModel", "actTwo", "[I", true)
  | 36 => ("LocksBySongModel", "acts", "I", false)
  | 37 => ("LocksBySongModel", "passedMany", "I", false)
  | 38 => ("LocksBySongModel", "gone", "I", false)
  | 39 => ("LocksBySongModel", "stuckBy", "I", false)
  | 40 => ("LocksBySongModel", "ups", "[I", true)
  | 41 => ("LocksBySongModel", "downs", "[I", true)
  | 42 => ("LocksBySongModel", "upMany", "I", false)
  | 43 => ("LocksBySongModel", "downMany", "I", false)
  | 44 => ("LocksBySongModel", "yet", "[I", true)
  | 45 => ("LocksBySongModel", "sounds", "I", false)
  | 46 => ("LocksBySongModel", "soundNote", "[I", true)
  | 47 => ("LocksBySongModel", "soundIs", "[I", true)
  | 48 => ("LocksBySongModel", "up", "J", false)
  | 49 => ("LocksBySongModel", "down", "J", false)
  | 50 => ("LocksBySongModel", "isKept", "[Z", true)
  | 51 => ("LocksBySongModel", "keptChanges", "[I", true)
  | _ => ("LocksBySongModel", "kept", "[I", true)
def tyX12 : Nat → FieldType := fun k => match k with
  | 0 => .int
  | 1 => .int
  | 2 => .array .long
  | 3 => .int
  | 4 => .int
  | 5 => .int
  | 6 => .int
  | 7 => .int
  | 8 => .array .int
  | 9 => .array .int
  | 10 => .array .int
  | 11 => .array .int
  | 12 => .array .int
  | 13 => .array .int
  | 14 => .array .int
  | 15 => .array .int
  | 16 => .array .int
  | 17 => .int
  | 18 => .int
  | 19 => .int
  | 20 => .int
  | 21 => .array .int
  | 22 => .int
  | 23 => .array .int
  | 24 => .array .int
  | 25 => .int
  | 26 => .int
  | 27 => .array .int
  | 28 => .array .int
  | 29 => .array .int
  | 30 => .array .int
  | 31 => .int
  | 32 => .array .int
  | 33 => .array .int
  | 34 => .array .int
  | 35 => .array .int
  | 36 => .int
  | 37 => .int
  | 38 => .int
  | 39 => .int
  | 40 => .array .int
  | 41 => .array .int
  | 42 => .int
  | 43 => .int
  | 44 => .array .int
  | 45 => .int
  | 46 => .array .int
  | 47 => .array .int
  | 48 => .long
  | 49 => .long
  | 50 => .array .boolean
  | 51 => .array .int
  | _ => .array .int
abbrev wsX120 : List Cond := u_ws RX12 TX12 53
theorem nmX12 : ∀ a, a < 53 → ∀ b, b < 53 → a ≠ b → (TX12 a).2.1 ≠ (TX12 b).2.1 := by decide +kernel
theorem tyX12_ok : ∀ k, k < 53 → parseFieldDescriptor (TX12 k).2.2.1 = some (tyX12 k) := by decide +kernel
abbrev cX12_init : ByteArray := prog_14_method_1_code
def yX12_init : MethodName := ⟨RX12, "<init>", "()V"⟩
abbrev cX12_thrown : ByteArray := prog_14_method_2_code
def yX12_thrown : MethodName := ⟨RX12, "thrown", "()I"⟩
abbrev cX12_refuse : ByteArray := prog_14_method_3_code
def yX12_refuse : MethodName := ⟨RX12, "refuse", "()I"⟩
abbrev cX12_in : ByteArray := prog_14_method_4_code
def yX12_in : MethodName := ⟨RX12, "in", "(JJJ)Z"⟩
abbrev cX12_has : ByteArray := prog_14_method_5_code
def yX12_has : MethodName := ⟨RX12, "has", "(II)Z"⟩
abbrev cX12_flag : ByteArray := prog_14_method_6_code
def yX12_flag : MethodName := ⟨RX12, "flag", "(Z)I"⟩
abbrev cX12_common : ByteArray := prog_14_method_7_code
def yX12_common : MethodName := ⟨RX12, "common", "(JJ)J"⟩
abbrev cX12_enters : ByteArray := prog_14_method_8_code
def yX12_enters : MethodName := ⟨RX12, "enters", "(J)V"⟩
abbrev cX12_isLock : ByteArray := prog_14_method_9_code
def yX12_isLock : MethodName := ⟨RX12, "isLock", "(I)Z"⟩
abbrev cX12_isSinger : ByteArray := prog_14_method_10_code
def yX12_isSinger : MethodName := ⟨RX12, "isSinger", "(I)Z"⟩
abbrev cX12_isBarge : ByteArray := prog_14_method_11_code
def yX12_isBarge : MethodName := ⟨RX12, "isBarge", "(I)Z"⟩
abbrev cX12_isPlace : ByteArray := prog_14_method_12_code
def yX12_isPlace : MethodName := ⟨RX12, "isPlace", "(I)Z"⟩
abbrev cX12_placeOf : ByteArray := prog_14_method_13_code
def yX12_placeOf : MethodName := ⟨RX12, "placeOf", "([II)I"⟩
abbrev cX12_crewOf : ByteArray := prog_14_method_14_code
def yX12_crewOf : MethodName := ⟨RX12, "crewOf", "([II)I"⟩
abbrev cX12_tiredOf : ByteArray := prog_14_method_15_code
def yX12_tiredOf : MethodName := ⟨RX12, "tiredOf", "([II)I"⟩
abbrev cX12_crew : ByteArray := prog_14_method_16_code
def yX12_crew : MethodName := ⟨RX12, "crew", "([II)I"⟩
abbrev cX12_whereIs : ByteArray := prog_14_method_17_code
def yX12_whereIs : MethodName := ⟨RX12, "whereIs", "(I)I"⟩
abbrev cX12_sign : ByteArray := prog_14_method_18_code
def yX12_sign : MethodName := ⟨RX12, "sign", "(I)I"⟩
abbrev cX12_end : ByteArray := prog_14_method_19_code
def yX12_end : MethodName := ⟨RX12, "end", "(I)Z"⟩
abbrev cX12_begins : ByteArray := prog_14_method_20_code
def yX12_begins : MethodName := ⟨RX12, "begins", "(I)I"⟩
abbrev cX12_takes : ByteArray := prog_14_method_21_code
def yX12_takes : MethodName := ⟨RX12, "takes", "(I)Z"⟩
abbrev cX12_isDigit : ByteArray := prog_14_method_22_code
def yX12_isDigit : MethodName := ⟨RX12, "isDigit", "()Z"⟩
abbrev cX12_among : ByteArray := prog_14_method_23_code
def yX12_among : MethodName := ⟨RX12, "among", "(Ljava/lang/String;)I"⟩
abbrev cX12_takesOf : ByteArray := prog_14_method_24_code
def yX12_takesOf : MethodName := ⟨RX12, "takesOf", "(Ljava/lang/String;)I"⟩
abbrev cX12_number : ByteArray := prog_14_method_25_code
def yX12_number : MethodName := ⟨RX12, "number", "(I)I"⟩
abbrev cX12_signIn : ByteArray := prog_14_method_26_code
def yX12_signIn : MethodName := ⟨RX12, "signIn", "(III)I"⟩
abbrev cX12_faultOf : ByteArray := prog_14_method_27_code
def yX12_faultOf : MethodName := ⟨RX12, "faultOf", "(IIZ)I"⟩
abbrev cX12_readsLock : ByteArray := prog_14_method_28_code
def yX12_readsLock : MethodName := ⟨RX12, "readsLock", "()Z"⟩
abbrev cX12_readsSinger : ByteArray := prog_14_method_29_code
def yX12_readsSinger : MethodName := ⟨RX12, "readsSinger", "()Z"⟩
abbrev cX12_readsBarge : ByteArray := prog_14_method_30_code
def yX12_readsBarge : MethodName := ⟨RX12, "readsBarge", "()Z"⟩
abbrev cX12_readsLines : ByteArray := prog_14_method_31_code
def yX12_readsLines : MethodName := ⟨RX12, "readsLines", "(II)I"⟩
abbrev cX12_came : ByteArray := prog_14_method_32_code
def yX12_came : MethodName := ⟨RX12, "came", "()I"⟩
abbrev cX12_locks : ByteArray := prog_14_method_33_code
def yX12_locks : MethodName := ⟨RX12, "locks", "()I"⟩
abbrev cX12_singers : ByteArray := prog_14_method_34_code
def yX12_singers : MethodName := ⟨RX12, "singers", "()I"⟩
abbrev cX12_barges : ByteArray := prog_14_method_35_code
def yX12_barges : MethodName := ⟨RX12, "barges", "()I"⟩
abbrev cX12_codes : ByteArray := prog_14_method_36_code
def yX12_codes : MethodName := ⟨RX12, "codes", "(I)V"⟩
abbrev cX12_readsThing : ByteArray := prog_14_method_37_code
def yX12_readsThing : MethodName := ⟨RX12, "readsThing", "()Z"⟩
abbrev cX12_readsRank : ByteArray := prog_14_method_38_code
def yX12_readsRank : MethodName := ⟨RX12, "readsRank", "(I)Z"⟩
abbrev cX12_rule : ByteArray := prog_14_method_39_code
def yX12_rule : MethodName := ⟨RX12, "rule", "()I"⟩
abbrev cX12_worked : ByteArray := prog_14_method_40_code
def yX12_worked : MethodName := ⟨RX12, "worked", "(III)I"⟩
abbrev cX12_ruled : ByteArray := prog_14_method_41_code
def yX12_ruled : MethodName := ⟨RX12, "ruled", "()I"⟩
abbrev cX12_tiredAll : ByteArray := prog_14_method_42_code
def yX12_tiredAll : MethodName := ⟨RX12, "tiredAll", "([II)I"⟩
abbrev cX12_minutes : ByteArray := prog_14_method_43_code
def yX12_minutes : MethodName := ⟨RX12, "minutes", "([IIII)I"⟩
abbrev cX12_laysNotes : ByteArray := prog_14_method_44_code
def yX12_laysNotes : MethodName := ⟨RX12, "laysNotes", "(II)V"⟩
abbrev cX12_canSing : ByteArray := prog_14_method_45_code
def yX12_canSing : MethodName := ⟨RX12, "canSing", "([III)Z"⟩
abbrev cX12_singsFrom : ByteArray := prog_14_method_46_code
def yX12_singsFrom : MethodName := ⟨RX12, "singsFrom", "([IIII)Z"⟩
abbrev cX12_singsChord : ByteArray := prog_14_method_47_code
def yX12_singsChord : MethodName := ⟨RX12, "singsChord", "([III)Z"⟩
abbrev cX12_tellsSung : ByteArray := prog_14_method_48_code
def yX12_tellsSung : MethodName := ⟨RX12, "tellsSung", "()V"⟩
abbrev cX12_lock : ByteArray := prog_14_method_49_code
def yX12_lock : MethodName := ⟨RX12, "lock", "(II)I"⟩
abbrev cX12_singer : ByteArray := prog_14_method_50_code
def yX12_singer : MethodName := ⟨RX12, "singer", "(II)I"⟩
abbrev cX12_barge : ByteArray := prog_14_method_51_code
def yX12_barge : MethodName := ⟨RX12, "barge", "(II)I"⟩
abbrev cX12_set : ByteArray := prog_14_method_52_code
def yX12_set : MethodName := ⟨RX12, "set", "(II)I"⟩
abbrev cX12_sheet : ByteArray := prog_14_method_53_code
def yX12_sheet : MethodName := ⟨RX12, "sheet", "(IIII)I"⟩
abbrev cX12_putsBy : ByteArray := prog_14_method_54_code
def yX12_putsBy : MethodName := ⟨RX12, "putsBy", "()V"⟩
abbrev cX12_adds : ByteArray := prog_14_method_55_code
def yX12_adds : MethodName := ⟨RX12, "adds", "(I)I"⟩
abbrev cX12_counts : ByteArray := prog_14_method_56_code
def yX12_counts : MethodName := ⟨RX12, "counts", "(I)I"⟩
abbrev cX12_undo : ByteArray := prog_14_method_57_code
def yX12_undo : MethodName := ⟨RX12, "undo", "()I"⟩
abbrev cX12_hiresTo : ByteArray := prog_14_method_58_code
def yX12_hiresTo : MethodName := ⟨RX12, "hiresTo", "([III)I"⟩
abbrev cX12_leaves : ByteArray := prog_14_method_59_code
def yX12_leaves : MethodName := ⟨RX12, "leaves", "([II)I"⟩
abbrev cX12_waterFor : ByteArray := prog_14_method_60_code
def yX12_waterFor : MethodName := ⟨RX12, "waterFor", "(II)I"⟩
abbrev cX12_whyNot : ByteArray := prog_14_method_61_code
def yX12_whyNot : MethodName := ⟨RX12, "whyNot", "([III)I"⟩
abbrev cX12_passes : ByteArray := prog_14_method_62_code
def yX12_passes : MethodName := ⟨RX12, "passes", "([III)I"⟩
abbrev cX12_restsFor : ByteArray := prog_14_method_63_code
def yX12_restsFor : MethodName := ⟨RX12, "restsFor", "([II)V"⟩
abbrev cX12_hire : ByteArray := prog_14_method_64_code
def yX12_hire : MethodName := ⟨RX12, "hire", "(II)I"⟩
abbrev cX12_leave : ByteArray := prog_14_method_65_code
def yX12_leave : MethodName := ⟨RX12, "leave", "(I)I"⟩
abbrev cX12_pass : ByteArray := prog_14_method_66_code
def yX12_pass : MethodName := ⟨RX12, "pass", "(II)I"⟩
abbrev cX12_rest : ByteArray := prog_14_method_67_code
def yX12_rest : MethodName := ⟨RX12, "rest", "(I)I"⟩
abbrev cX12_readsAct : ByteArray := prog_14_method_68_code
def yX12_readsAct : MethodName := ⟨RX12, "readsAct", "()Z"⟩
abbrev cX12_does : ByteArray := prog_14_method_69_code
def yX12_does : MethodName := ⟨RX12, "does", "(I)Z"⟩
abbrev cX12_day : ByteArray := prog_14_method_70_code
def yX12_day : MethodName := ⟨RX12, "day", "()I"⟩
abbrev cX12_isPair : ByteArray := prog_14_method_71_code
def yX12_isPair : MethodName := ⟨RX12, "isPair", "(II)Z"⟩
abbrev cX12_sings : ByteArray := prog_14_method_72_code
def yX12_sings : MethodName := ⟨RX12, "sings", "(II)I"⟩
abbrev cX12_lacks : ByteArray := prog_14_method_73_code
def yX12_lacks : MethodName := ⟨RX12, "lacks", "(II)I"⟩
abbrev cX12_spoils : ByteArray := prog_14_method_74_code
def yX12_spoils : MethodName := ⟨RX12, "spoils", "(II)I"⟩
abbrev cX12_isShift : ByteArray := prog_14_method_75_code
def yX12_isShift : MethodName := ⟨RX12, "isShift", "(III)Z"⟩
abbrev cX12_shift : ByteArray := prog_14_method_76_code
def yX12_shift : MethodName := ⟨RX12, "shift", "(II)I"⟩
abbrev cX12_fees : ByteArray := prog_14_method_77_code
def yX12_fees : MethodName := ⟨RX12, "fees", "(I)I"⟩
abbrev cX12_isCheaper : ByteArray := prog_14_method_78_code
def yX12_isCheaper : MethodName := ⟨RX12, "isCheaper", "(II)Z"⟩
abbrev cX12_voicesOf : ByteArray := prog_14_method_79_code
def yX12_voicesOf : MethodName := ⟨RX12, "voicesOf", "(III)I"⟩
abbrev cX12_freeAt : ByteArray := prog_14_method_80_code
def yX12_freeAt : MethodName := ⟨RX12, "freeAt", "(I)I"⟩
abbrev cX12_voices : ByteArray := prog_14_method_81_code
def yX12_voices : MethodName := ⟨RX12, "voices", "(II)I"⟩
abbrev cX12_puts : ByteArray := prog_14_method_82_code
def yX12_puts : MethodName := ⟨RX12, "puts", "()V"⟩
abbrev cX12_goesTo : ByteArray := prog_14_method_83_code
def yX12_goesTo : MethodName := ⟨RX12, "goesTo", "(II)I"⟩
abbrev cX12_journey : ByteArray := prog_14_method_84_code
def yX12_journey : MethodName := ⟨RX12, "journey", "(II)I"⟩
abbrev cX12_singsAll : ByteArray := prog_14_method_85_code
def yX12_singsAll : MethodName := ⟨RX12, "singsAll", "(III)Z"⟩
abbrev cX12_hires : ByteArray := prog_14_method_86_code
def yX12_hires : MethodName := ⟨RX12, "hires", "(II)I"⟩
abbrev cX12_rested : ByteArray := prog_14_method_87_code
def yX12_rested : MethodName := ⟨RX12, "rested", "(II)I"⟩
abbrev cX12_spot : ByteArray := prog_14_method_88_code
def yX12_spot : MethodName := ⟨RX12, "spot", "(III)I"⟩
abbrev cX12_costOf : ByteArray := prog_14_method_89_code
def yX12_costOf : MethodName := ⟨RX12, "costOf", "(II)I"⟩
abbrev cX12_yetBy : ByteArray := prog_14_method_90_code
def yX12_yetBy : MethodName := ⟨RX12, "yetBy", "(IIII)I"⟩
abbrev cX12_laysQueue : ByteArray := prog_14_method_91_code
def yX12_laysQueue : MethodName := ⟨RX12, "laysQueue", "()V"⟩
abbrev cX12_queue : ByteArray := prog_14_method_92_code
def yX12_queue : MethodName := ⟨RX12, "queue", "(I)I"⟩
abbrev cX12_passing : ByteArray := prog_14_method_93_code
def yX12_passing : MethodName := ⟨RX12, "passing", "()I"⟩
abbrev cX12_jams : ByteArray := prog_14_method_94_code
def yX12_jams : MethodName := ⟨RX12, "jams", "()I"⟩
abbrev cX12_heard : ByteArray := prog_14_method_95_code
def yX12_heard : MethodName := ⟨RX12, "heard", "(II)I"⟩
abbrev cX12_forget : ByteArray := prog_14_method_96_code
def yX12_forget : MethodName := ⟨RX12, "forget", "()I"⟩
abbrev cX12_singersOf : ByteArray := prog_14_method_97_code
def yX12_singersOf : MethodName := ⟨RX12, "singersOf", "(I)I"⟩
abbrev cX12_fitting : ByteArray := prog_14_method_98_code
def yX12_fitting : MethodName := ⟨RX12, "fitting", "()I"⟩
abbrev cX12_who : ByteArray := prog_14_method_99_code
def yX12_who : MethodName := ⟨RX12, "who", "()I"⟩
abbrev cX12_listen : ByteArray := prog_14_method_100_code
def yX12_listen : MethodName := ⟨RX12, "listen", "()I"⟩
abbrev cX12_isParted : ByteArray := prog_14_method_101_code
def yX12_isParted : MethodName := ⟨RX12, "isParted", "(II)Z"⟩
abbrev cX12_partsBy : ByteArray := prog_14_method_102_code
def yX12_partsBy : MethodName := ⟨RX12, "partsBy", "(IIII)I"⟩
abbrev cX12_parts : ByteArray := prog_14_method_103_code
def yX12_parts : MethodName := ⟨RX12, "parts", "()I"⟩
abbrev cX12_bets : ByteArray := prog_14_method_104_code
def yX12_bets : MethodName := ⟨RX12, "bets", "(II)V"⟩
abbrev cX12_opens : ByteArray := prog_14_method_105_code
def yX12_opens : MethodName := ⟨RX12, "opens", "(II)I"⟩
abbrev cX12_tries : ByteArray := prog_14_method_106_code
def yX12_tries : MethodName := ⟨RX12, "tries", "(II)I"⟩
abbrev cX12_earns : ByteArray := prog_14_method_107_code
def yX12_earns : MethodName := ⟨RX12, "earns", "(III)I"⟩
abbrev cX12_isRest : ByteArray := prog_14_method_108_code
def yX12_isRest : MethodName := ⟨RX12, "isRest", "(III)Z"⟩
abbrev cX12_rests : ByteArray := prog_14_method_109_code
def yX12_rests : MethodName := ⟨RX12, "rests", "(I)I"⟩
abbrev cX12_pays : ByteArray := prog_14_method_110_code
def yX12_pays : MethodName := ⟨RX12, "pays", "(II)I"⟩
abbrev cX12_days : ByteArray := prog_14_method_111_code
def yX12_days : MethodName := ⟨RX12, "days", "(II)I"⟩
abbrev cX12_keep : ByteArray := prog_14_method_112_code
def yX12_keep : MethodName := ⟨RX12, "keep", "(I)Z"⟩
abbrev cX12_again : ByteArray := prog_14_method_113_code
def yX12_again : MethodName := ⟨RX12, "again", "(I)Z"⟩
abbrev cX12_levels : ByteArray := prog_14_method_114_code
def yX12_levels : MethodName := ⟨RX12, "levels", "()I"⟩
abbrev cX12_count : ByteArray := prog_14_method_115_code
def yX12_count : MethodName := ⟨RX12, "count", "(I)I"⟩
abbrev cX12_row : ByteArray := prog_14_method_116_code
def yX12_row : MethodName := ⟨RX12, "row", "(I)J"⟩
def RJ11 : String := "java/lang/Character"
def TJ11 : u_T := fun k => match k with
  | _ => ("", "", "", false)
def tyJ11 : Nat → FieldType := fun k => match k with
  | _ => .int
abbrev cJ11_isValidCodePoint_9a6ad : ByteArray := prog_17_method_11_code
def yJ11_isValidCodePoint_9a6ad : MethodName := ⟨RJ11, "isValidCodePoint", "(I)Z"⟩
abbrev cJ11_highSurrogate_5068e : ByteArray := prog_17_method_28_code
def yJ11_highSurrogate_5068e : MethodName := ⟨RJ11, "highSurrogate", "(I)C"⟩
abbrev cJ11_lowSurrogate_5068e : ByteArray := prog_17_method_29_code
def yJ11_lowSurrogate_5068e : MethodName := ⟨RJ11, "lowSurrogate", "(I)C"⟩
def RJ6 : String := "java/lang/Integer"
def TJ6 : u_T := fun k => match k with
  | _ => ("", "", "", false)
def tyJ6 : Nat → FieldType := fun k => match k with
  | _ => .int
abbrev cJ6_bitCount_0f7a4 : ByteArray := prog_20_method_49_code
def yJ6_bitCount_0f7a4 : MethodName := ⟨RJ6, "bitCount", "(I)I"⟩
def RJ9 : String := "java/lang/Math"
def TJ9 : u_T := fun k => match k with
  | _ => ("", "", "", false)
def tyJ9 : Nat → FieldType := fun k => match k with
  | _ => .int
abbrev cJ9_max_7cf53 : ByteArray := prog_21_method_65_code
def yJ9_max_7cf53 : MethodName := ⟨RJ9, "max", "(II)I"⟩
abbrev cJ9_min_7cf53 : ByteArray := prog_21_method_69_code
def yJ9_min_7cf53 : MethodName := ⟨RJ9, "min", "(II)I"⟩
def RJ0 : String := "java/lang/String"
def TJ0 : u_T := fun k => match k with
  | _ => ("", "", "", false)
def tyJ0 : Nat → FieldType := fun k => match k with
  | _ => .int
abbrev cJ0_length_8abf5 : ByteArray := prog_23_method_54_code
def yJ0_length_8abf5 : MethodName := ⟨RJ0, "length", "()I"⟩
abbrev cJ0_charAt_5068e : ByteArray := prog_23_method_56_code
def yJ0_charAt_5068e : MethodName := ⟨RJ0, "charAt", "(I)C"⟩
abbrev cJ0_indexOf_0f7a4 : ByteArray := prog_23_method_79_code
def yJ0_indexOf_0f7a4 : MethodName := ⟨RJ0, "indexOf", "(I)I"⟩
abbrev cJ0_indexOf_7cf53 : ByteArray := prog_23_method_80_code
def yJ0_indexOf_7cf53 : MethodName := ⟨RJ0, "indexOf", "(II)I"⟩
abbrev cJ0_coder_7d493 : ByteArray := prog_23_method_152_code
def yJ0_coder_7d493 : MethodName := ⟨RJ0, "coder", "()B"⟩
abbrev cJ0_isLatin1_aae02 : ByteArray := prog_23_method_154_code
def yJ0_isLatin1_aae02 : MethodName := ⟨RJ0, "isLatin1", "()Z"⟩
abbrev cJ0_checkIndex_df160 : ByteArray := prog_23_method_155_code
def yJ0_checkIndex_df160 : MethodName := ⟨RJ0, "checkIndex", "(II)V"⟩
abbrev cJ0_checkBoundsBeginEnd_23922 : ByteArray := prog_23_method_158_code
def yJ0_checkBoundsBeginEnd_23922 : MethodName := ⟨RJ0, "checkBoundsBeginEnd", "(III)V"⟩
def RJ1 : String := "java/lang/StringLatin1"
def TJ1 : u_T := fun k => match k with
  | _ => ("", "", "", false)
def tyJ1 : Nat → FieldType := fun k => match k with
  | _ => .int
abbrev cJ1_charAt_3b067 : ByteArray := prog_24_method_2_code
def yJ1_charAt_3b067 : MethodName := ⟨RJ1, "charAt", "([BI)C"⟩
abbrev cJ1_canEncode_9a6ad : ByteArray := prog_24_method_4_code
def yJ1_canEncode_9a6ad : MethodName := ⟨RJ1, "canEncode", "(I)Z"⟩
abbrev cJ1_indexOf_4cfef : ByteArray := prog_24_method_22_code
def yJ1_indexOf_4cfef : MethodName := ⟨RJ1, "indexOf", "([BIII)I"⟩
abbrev cJ1_indexOfChar_4cfef : ByteArray := prog_24_method_23_code
def yJ1_indexOfChar_4cfef : MethodName := ⟨RJ1, "indexOfChar", "([BIII)I"⟩
def RJ2 : String := "java/lang/StringUTF16"
def TJ2 : u_T := fun k => match k with
  | _ => ("", "", "", false)
def tyJ2 : Nat → FieldType := fun k => match k with
  | _ => .int
abbrev cJ2_getChar_3b067 : ByteArray := prog_25_method_5_code
def yJ2_getChar_3b067 : MethodName := ⟨RJ2, "getChar", "([BI)C"⟩
abbrev cJ2_length_9d52b : ByteArray := prog_25_method_6_code
def yJ2_length_9d52b : MethodName := ⟨RJ2, "length", "([B)I"⟩
abbrev cJ2_indexOf_4cfef : ByteArray := prog_25_method_40_code
def yJ2_indexOf_4cfef : MethodName := ⟨RJ2, "indexOf", "([BIII)I"⟩
abbrev cJ2_indexOfChar_4cfef : ByteArray := prog_25_method_47_code
def yJ2_indexOfChar_4cfef : MethodName := ⟨RJ2, "indexOfChar", "([BIII)I"⟩
abbrev cJ2_indexOfCharUnsafe_4cfef : ByteArray := prog_25_method_48_code
def yJ2_indexOfCharUnsafe_4cfef : MethodName := ⟨RJ2, "indexOfCharUnsafe", "([BIII)I"⟩
abbrev cJ2_indexOfSupplementary_4cfef : ByteArray := prog_25_method_49_code
def yJ2_indexOfSupplementary_4cfef : MethodName := ⟨RJ2, "indexOfSupplementary", "([BIII)I"⟩
abbrev cJ2_charAt_3b067 : ByteArray := prog_25_method_83_code
def yJ2_charAt_3b067 : MethodName := ⟨RJ2, "charAt", "([BI)C"⟩
abbrev cJ2_checkIndex_2214a : ByteArray := prog_25_method_91_code
def yJ2_checkIndex_2214a : MethodName := ⟨RJ2, "checkIndex", "(I[B)V"⟩
abbrev cJ2_checkBoundsBeginEnd_d044e : ByteArray := prog_25_method_93_code
def yJ2_checkBoundsBeginEnd_d044e : MethodName := ⟨RJ2, "checkBoundsBeginEnd", "(II[B)V"⟩
def RJ10 : String := "java/lang/System"
def TJ10 : u_T := fun k => match k with
  | _ => ("", "", "", false)
def tyJ10 : Nat → FieldType := fun k => match k with
  | _ => .int
def RJ3 : String := "jdk/internal/util/Preconditions"
def TJ3 : u_T := fun k => match k with
  | _ => ("", "", "", false)
def tyJ3 : Nat → FieldType := fun k => match k with
  | _ => .int
abbrev cJ3_checkIndex_8e157 : ByteArray := prog_31_method_11_code
def yJ3_checkIndex_8e157 : MethodName := ⟨RJ3, "checkIndex", "(IILjava/util/function/BiFunction;)I"⟩
abbrev cJ3_checkFromToIndex_8c36e : ByteArray := prog_31_method_12_code
def yJ3_checkFromToIndex_8c36e : MethodName := ⟨RJ3, "checkFromToIndex", "(IIILjava/util/function/BiFunction;)I"⟩
def RL : String := "LocksBySongLaw"
abbrev cL_lock : ByteArray := method_3_code
def yL_lock : MethodName := ⟨RL, "lock", "(LLocksBySong;II[J)I"⟩
abbrev cL_singer : ByteArray := method_4_code
def yL_singer : MethodName := ⟨RL, "singer", "(LLocksBySong;II[J)I"⟩
abbrev cL_barge : ByteArray := method_5_code
def yL_barge : MethodName := ⟨RL, "barge", "(LLocksBySong;II[J)I"⟩
abbrev cL_row : ByteArray := method_6_code
def yL_row : MethodName := ⟨RL, "row", "(LLocksBySong;I[J)I"⟩
abbrev cL_law : ByteArray := code
def yL_law : MethodName := ⟨RL, "law", "([I)Z"⟩
abbrev vwCl : List vw_C := [(RX0, TX0, 11), (RX1, TX1, 3), (RX2, TX2, 3), (RX3, TX3, 8), (RX4, TX4, 6), (RX5, TX5, 2), (RX6, TX6, 3), (RX7, TX7, 6), (RX8, TX8, 4), (RX9, TX9, 5), (RX10, TX10, 5), (RX11, TX11, 15), (RX12, TX12, 53)]
end
section
/-! ===== the abstract machine: cells by their number, one step, a call ===== -/
abbrev zi_C : Type := (Nat × vp_A) ⊕ (Nat × List Value)
/-- the heap by the cells' numbers; how many cells; cells and slots of the room that are used -/
abbrev zi_S : Type := (Nat → zi_C) × Nat × Nat × Nat
abbrev zi_L : Type := List (Option Value)
abbrev zi_O : Type := (Nat × zi_L × List Value × zi_S) ⊕ (Option Value ⊕ (Nat × List Value × List Value))
/-- cells that are only read: the six texts (1000000 + 2 j) and their bytes (behind each) -/
def zi_txt : List (List Int32) := [[110, 116, 108, 119, 117, 99, 109], [60, 62, 61], [43, 45], [42, 47], [104, 108, 117, 100, 114], [100, 117]]
def zi_ro2 (b m : Nat) : zi_C := match zi_txt[m / 2]? with
  | some l => cond (Nat.beq (m % 2) 0) (.inr (15, [.ref (b + m + 1), .int 0])) (.inl (4, l.length, .inl fun i => l.getD i 0))
  | none => .inl (9, 0, .inl fun _ => 0)
def zi_ro (k : Nat) : zi_C := zi_ro2 1000000 (k - 1000000)
def zi_ld (ls : zi_L) (i : Nat) : Option Value := match ls[i]? with
  | some (some v) => some v
  | _ => none
def zi_kill (ls : zi_L) : Nat → zi_L
  | 0 => ls
  | i + 1 => match ls[i]? with
    | some (some (.long _)) => ls.set i none
    | some (some (.double _)) => ls.set i none
    | _ => ls
def zi_st1 (ls : zi_L) (i : Nat) (v : Value) : Option zi_L := cond (Nat.blt i ls.length) (some ((zi_kill ls i).set i (some v))) none
def zi_st2 (ls : zi_L) (i : Nat) (v : Value) : Option zi_L := cond (Nat.blt (i + 1) ls.length) (some (((zi_kill ls i).set i (some v)).set (i + 1) none)) none
def zi_ent : List Value → zi_L
  | [] => []
  | .long x :: vs => some (.long x) :: none :: zi_ent vs
  | .double x :: vs => some (.double x) :: none :: zi_ent vs
  | v :: vs => some v :: zi_ent vs
def zi_in (i : Int32) (n : Nat) : Bool := !(decide (i < 0)) && Nat.blt i.toNatClampNeg n
def zi_sw (v : Int32) : List (Int32 × Nat) → Nat → Nat
  | [], d => d
  | (k, t) :: r, d => if v = k then t else zi_sw v r d
/-- a field's type takes the value -/
def zi_fv : FieldType → Value → Bool
  | .int, .int _ => true
  | .long, .long _ => true
  | .object _, .ref _ => true
  | .array _, .ref _ => true
  | _, _ => false
def zi_dv : FieldType → Value
  | .int => .int 0
  | .long => .long 0
  | _ => .null
def zi_nx (pc : Nat) (ls : zi_L) (st : List Value) (S : zi_S) : Option zi_O := some (.inl (pc, ls, st, S))
def zi_i1 (pc : Nat) (ls : zi_L) (st : List Value) (S : zi_S) (f : Int32 → Int32) : Option zi_O := match st with
  | .int x :: r => zi_nx (pc + 1) ls (.int (f x) :: r) S
  | _ => none
def zi_i2 (pc : Nat) (ls : zi_L) (st : List Value) (S : zi_S) (f : Int32 → Int32 → Int32) : Option zi_O := match st with
  | .int y :: .int x :: r => zi_nx (pc + 1) ls (.int (f x y) :: r) S
  | _ => none
def zi_l2 (pc : Nat) (ls : zi_L) (st : List Value) (S : zi_S) (f : Int64 → Int64 → Int64) : Option zi_O := match st with
  | .long y :: .long x :: r => zi_nx (pc + 1) ls (.long (f x y) :: r) S
  | _ => none
def zi_lod (n pc : Nat) (ls : zi_L) (st : List Value) (S : zi_S) (i : Nat) (k : Value → Bool) : Option zi_O := match zi_ld ls i with
  | some v => cond (k v) (zi_nx (pc + n) ls (v :: st) S) none
  | none => none
def zi_sto (n pc : Nat) (ls : zi_L) (st : List Value) (S : zi_S) (i : Nat) (k : Value → Bool) : Option zi_O := match st with
  | v :: r => cond (k v) ((zi_st1 ls i v).bind fun ls' => zi_nx (pc + n) ls' r S) none
  | _ => none
def zi_sto2 (n pc : Nat) (ls : zi_L) (st : List Value) (S : zi_S) (i : Nat) : Option zi_O := match st with
  | .long v :: r => (zi_st2 ls i (.long v)).bind fun ls' => zi_nx (pc + n) ls' r S
  | _ => none
def zi_kI : Value → Bool
  | .int _ => true
  | _ => false
def zi_kL : Value → Bool
  | .long _ => true
  | _ => false
def zi_kR : Value → Bool
  | .ref _ => true
  | _ => false
def zi_k1 : Value → Bool
  | .int _ => true
  | .ref _ => true
  | .null => true
  | _ => false
def zi_br (pc tgt : Nat) (ls : zi_L) (r : List Value) (S : zi_S) (b : Prop) [Decidable b] : Option zi_O := if b then zi_nx tgt ls r S else zi_nx (pc + 3) ls r S
def zi_if1 (pc tgt : Nat) (ls : zi_L) (st : List Value) (S : zi_S) (q : ClassFile.Cond) : Option zi_O := match st with
  | .int x :: r => match q with
    | .eq => zi_br pc tgt ls r S (x = 0)
    | .ne => zi_br pc tgt ls r S (¬ x = 0)
    | .lt => zi_br pc tgt ls r S (x < 0)
    | .ge => zi_br pc tgt ls r S (0 ≤ x)
    | .gt => zi_br pc tgt ls r S (0 < x)
    | .le => zi_br pc tgt ls r S (x ≤ 0)
  | _ => none
def zi_if2 (pc tgt : Nat) (ls : zi_L) (st : List Value) (S : zi_S) (q : ClassFile.Cond) : Option zi_O := match st with
  | .int y :: .int x :: r => match q with
    | .eq => zi_br pc tgt ls r S (x = y)
    | .ne => zi_br pc tgt ls r S (¬ x = y)
    | .lt => zi_br pc tgt ls r S (x < y)
    | .ge => zi_br pc tgt ls r S (y ≤ x)
    | .gt => zi_br pc tgt ls r S (y < x)
    | .le => zi_br pc tgt ls r S (x ≤ y)
  | _ => none
/-- the rest of the operand stack is small -/
def zi_sm (r : List Value) : Bool := Nat.ble (r.map fun v => v.category).sum 8
def zi_put (h : Nat → zi_C) (k : Nat) (c : zi_C) : Nat → zi_C := va_up h k c
/-- the n topmost, in the order of the arguments, ahead of those that are there -/
def zi_pop : Nat → List Value → List Value → Option (List Value × List Value)
  | 0, st, as => some (as, st)
  | n + 1, v :: st, as => zi_pop n st (v :: as)
  | _ + 1, [], _ => none
def zi_ft (ci k : Nat) : FieldType := match ci with
  | 0 => tyX0 k
  | 1 => tyX1 k
  | 2 => tyX2 k
  | 3 => tyX3 k
  | 4 => tyX4 k
  | 5 => tyX5 k
  | 6 => tyX6 k
  | 7 => tyX7 k
  | 8 => tyX8 k
  | 9 => tyX9 k
  | 10 => tyX10 k
  | 11 => tyX11 k
  | _ => tyX12 k
def zi_fn (ci : Nat) : Nat := match ci with
  | 0 => 11
  | 1 => 3
  | 2 => 3
  | 3 => 8
  | 4 => 6
  | 5 => 2
  | 6 => 3
  | 7 => 6
  | 8 => 4
  | 9 => 5
  | 10 => 5
  | 11 => 15
  | _ => 53
def zi_new (ci : Nat) : List Value := (List.range (zi_fn ci)).map fun k => zi_dv (zi_ft ci k)
/-- an array's kind: 0 int, 1 long, 2 boolean, 3 Moment -/
def zi_arr (t n : Nat) : vp_A := match t with
  | 1 => (n, .inr (.inl fun _ => 0))
  | 3 => (n, .inr (.inr (.inr (.inr fun _ => none))))
  | _ => (n, .inl fun _ => 0)
def zi_alloc (n pc : Nat) (ls : zi_L) (r : List Value) (S : zi_S) (c : zi_C) (w : Nat) : Option zi_O :=
  cond (Nat.blt S.2.1 1000000) (zi_nx (pc + n) ls (.ref S.2.1 :: r) (zi_put S.1 S.2.1 c, S.2.1 + 1, S.2.2.1 + 1, S.2.2.2 + w)) none
def zi_mka (n pc : Nat) (ls : zi_L) (st : List Value) (S : zi_S) (t : Nat) : Option zi_O := match st with
  | .int k :: r => cond (zi_in k 100000) (zi_alloc n pc ls r S (.inl (t, zi_arr t k.toNatClampNeg)) k.toNatClampNeg) none
  | _ => none
def zi_getf (pc : Nat) (ls : zi_L) (st : List Value) (S : zi_S) (x y : Nat) : Option zi_O := match st with
  | .ref a :: r => match S.1 a with
    | .inr (ci, fs) => cond (Nat.beq ci x && (Nat.blt a S.2.1 || Nat.ble 1000000 a)) (match fs[y]? with
      | some v => zi_nx (pc + 3) ls (v :: r) S
      | none => none) none
    | _ => none
  | _ => none
def zi_putf (pc : Nat) (ls : zi_L) (st : List Value) (S : zi_S) (x y : Nat) : Option zi_O := match st with
  | v :: .ref a :: r => match S.1 a with
    | .inr (ci, fs) => cond (Nat.beq ci x && (Nat.blt a S.2.1 && (Nat.blt y fs.length && zi_fv (zi_ft x y) v))) (zi_nx (pc + 3) ls r (zi_put S.1 a (.inr (ci, fs.set y v)), S.2)) none
    | _ => none
  | _ => none
def zi_ald (pc : Nat) (ls : zi_L) (st : List Value) (S : zi_S) (t : Nat) : Option zi_O := match st with
  | .int i :: .ref a :: r => match S.1 a with
    | .inl (t', n, .inl f) => cond (Nat.beq t' t && (Nat.blt a S.2.1 && zi_in i n)) (zi_nx (pc + 1) ls (.int (f i.toNatClampNeg) :: r) S) none
    | _ => none
  | _ => none
def zi_bald (pc : Nat) (ls : zi_L) (st : List Value) (S : zi_S) : Option zi_O := match st with
  | .int i :: .ref a :: r => match S.1 a with
    | .inl (t', n, .inl f) => cond (((Nat.beq t' 2 && Nat.blt a S.2.1) || (Nat.beq t' 4 && Nat.ble 1000000 a)) && zi_in i n) (zi_nx (pc + 1) ls (.int (f i.toNatClampNeg) :: r) S) none
    | _ => none
  | _ => none
def zi_lald (pc : Nat) (ls : zi_L) (st : List Value) (S : zi_S) : Option zi_O := match st with
  | .int i :: .ref a :: r => match S.1 a with
    | .inl (t', n, .inr (.inl f)) => cond (Nat.beq t' 1 && (Nat.blt a S.2.1 && zi_in i n)) (zi_nx (pc + 1) ls (.long (f i.toNatClampNeg) :: r) S) none
    | _ => none
  | _ => none
def zi_aald (pc : Nat) (ls : zi_L) (st : List Value) (S : zi_S) : Option zi_O := match st with
  | .int i :: .ref a :: r => match S.1 a with
    | .inl (t', n, .inr (.inr (.inr (.inr f)))) => cond (Nat.beq t' 3 && (Nat.blt a S.2.1 && zi_in i n)) (zi_nx (pc + 1) ls (va_rf (f i.toNatClampNeg) :: r) S) none
    | _ => none
  | _ => none
def zi_ast (pc : Nat) (ls : zi_L) (st : List Value) (S : zi_S) (t : Nat) (g : Int32 → Int32) : Option zi_O := match st with
  | .int v :: .int i :: .ref a :: r => match S.1 a with
    | .inl (t', n, .inl f) => cond (Nat.beq t' t && (Nat.blt a S.2.1 && zi_in i n)) (zi_nx (pc + 1) ls r (zi_put S.1 a (.inl (t', n, .inl (upd f i.toNatClampNeg (g v)))), S.2)) none
    | _ => none
  | _ => none
def zi_last (pc : Nat) (ls : zi_L) (st : List Value) (S : zi_S) : Option zi_O := match st with
  | .long v :: .int i :: .ref a :: r => match S.1 a with
    | .inl (t', n, .inr (.inl f)) => cond (Nat.beq t' 1 && (Nat.blt a S.2.1 && zi_in i n)) (zi_nx (pc + 1) ls r (zi_put S.1 a (.inl (t', n, .inr (.inl (vp_updL f i.toNatClampNeg v)))), S.2)) none
    | _ => none
  | _ => none
def zi_aast (pc : Nat) (ls : zi_L) (st : List Value) (S : zi_S) : Option zi_O := match st with
  | .ref v :: .int i :: .ref a :: r => match S.1 a, S.1 v with
    | .inl (t', n, .inr (.inr (.inr (.inr f)))), .inr (ci, _) => cond (Nat.beq t' 3 && (Nat.blt a S.2.1 && (Nat.blt v S.2.1 && (Nat.beq ci 3 && zi_in i n)))) (zi_nx (pc + 1) ls r (zi_put S.1 a (.inl (t', n, .inr (.inr (.inr (.inr (va_up f i.toNatClampNeg (some v))))))), S.2)) none
    | _, _ => none
  | _ => none
def zi_alen (pc : Nat) (ls : zi_L) (st : List Value) (S : zi_S) : Option zi_O := match st with
  | .ref a :: r => match S.1 a with
    | .inl (t', q) => cond ((Nat.blt t' 4 && Nat.blt a S.2.1) || (Nat.beq t' 4 && Nat.ble 1000000 a)) (zi_nx (pc + 1) ls (.int (Int32.ofNat q.1) :: r) S) none
    | _ => none
  | _ => none
/-- System.arraycopy between int arrays -/
def zi_cpy (pc : Nat) (ls : zi_L) (st : List Value) (S : zi_S) : Option zi_O := match st with
  | .int n :: .int dp :: .ref a :: .int sp :: .ref b :: r => match S.1 a, S.1 b with
    | .inl (t1, n1, .inl g), .inl (t0, n0, .inl f) => cond (Nat.beq t1 0 && (Nat.beq t0 0 && (Nat.blt a S.2.1 && (Nat.blt b S.2.1 && (zi_in sp 100000 && (zi_in dp 100000 && (zi_in n 100000 && (Nat.ble (sp.toNatClampNeg + n.toNatClampNeg) n0 && (Nat.ble (dp.toNatClampNeg + n.toNatClampNeg) n1 && zi_sm r)))))))))
        (zi_nx (pc + 3) ls r (zi_put S.1 a (.inl (t1, n1, .inl (va_cpy f g sp.toNatClampNeg dp.toNatClampNeg n.toNatClampNeg))), S.2)) none
    | _, _ => none
  | _ => none
/-- a call of method x with y arguments besides its object (k: has one) -/
def zi_inv (st : List Value) (S : zi_S) (x y : Nat) : Option zi_O := match zi_pop (y + 1) st [] with
  | some (.ref a :: as, r) => match S.1 a with
    | .inr (ci, _) => cond (Nat.beq ci (x / 200) && ((Nat.blt a S.2.1 || Nat.ble 1000000 a) && zi_sm r)) (some (.inr (.inr (x, .ref a :: as, r)))) none
    | _ => none
  | _ => none
def zi_invs (st : List Value) (x y : Nat) : Option zi_O := match zi_pop y st [] with
  | some (as, r) => cond (zi_sm r) (some (.inr (.inr (x, as, r)))) none
  | _ => none
def zi_m2 (pc : Nat) (ls : zi_L) (st : List Value) (S : zi_S) (f : Int32 → Int32 → Int32) : Option zi_O := match st with
  | .int y :: .int x :: r => cond (zi_sm r) (zi_nx (pc + 3) ls (.int (f x y) :: r) S) none
  | _ => none
/-- a constant: an int, or a text -/
def zi_cst (x y : Nat) : Value := match y with
  | 0 => .int (Int32.ofNat x)
  | _ => .ref (1000000 + x)
/-- method number 200 * (its class) + its place -/
abbrev zi_I : Type := ClassFile.Instr × Nat × Nat × Nat × List (Int32 × Nat)
/-- one instruction; x y z: what its operand is resolved to; ret: 0 none, 1 int, 2 boolean, 3 long -/
def zi_ex (ret : Nat) (q : zi_I) (pc : Nat) (ls : zi_L) (st : List Value) (S : zi_S) : Option zi_O := match q.1 with
  | .iconst n => zi_nx (pc + 1) ls (.int (Int32.ofInt n) :: st) S
  | .bipush n => zi_nx (pc + 2) ls (.int (Int8.ofInt n).toInt32 :: st) S
  | .sipush n => zi_nx (pc + 3) ls (.int (Int16.ofInt n).toInt32 :: st) S
  | .lconst n => zi_nx (pc + 1) ls (.long (Int64.ofNat n) :: st) S
  | .ldc _ => zi_nx (pc + 2) ls (zi_cst q.2.2.1 q.2.2.2.1 :: st) S
  | .ldc_w _ => zi_nx (pc + 3) ls (zi_cst q.2.2.1 q.2.2.2.1 :: st) S
  | .getstatic _ => zi_nx (pc + 3) ls (.int (Int32.ofNat q.2.2.1) :: st) S
  | .ldc2_w _ => zi_nx (pc + 3) ls (.long (Int64.ofNat q.2.2.1) :: st) S
  | .iload_n n => zi_lod 1 pc ls st S n zi_kI
  | .iload n => zi_lod 2 pc ls st S n zi_kI
  | .lload_n n => zi_lod 1 pc ls st S n zi_kL
  | .lload n => zi_lod 2 pc ls st S n zi_kL
  | .aload_n n => zi_lod 1 pc ls st S n zi_kR
  | .aload n => zi_lod 2 pc ls st S n zi_kR
  | .istore_n n => zi_sto 1 pc ls st S n zi_kI
  | .istore n => zi_sto 2 pc ls st S n zi_kI
  | .astore_n n => zi_sto 1 pc ls st S n zi_kR
  | .astore n => zi_sto 2 pc ls st S n zi_kR
  | .lstore_n n => zi_sto2 1 pc ls st S n
  | .lstore n => zi_sto2 2 pc ls st S n
  | .iinc i n => match zi_ld ls i with
    | some (.int x) => (zi_st1 ls i (.int (x + Int32.ofInt n))).bind fun ls' => zi_nx (pc + 3) ls' st S
    | _ => none
  | .iadd => zi_i2 pc ls st S (fun x y => x + y)
  | .isub => zi_i2 pc ls st S (fun x y => x - y)
  | .imul => zi_i2 pc ls st S (fun x y => x * y)
  | .iand => zi_i2 pc ls st S (fun x y => x &&& y)
  | .ior => zi_i2 pc ls st S (fun x y => x ||| y)
  | .ixor => zi_i2 pc ls st S (fun x y => x ^^^ y)
  | .ishl => zi_i2 pc ls st S (fun x y => x <<< (y &&& 31))
  | .ishr => zi_i2 pc ls st S (fun x y => x >>> (y &&& 31))
  | .iushr => zi_i2 pc ls st S (fun x y => (x.toUInt32 >>> (y.toUInt32 &&& Int32.toUInt32 31)).toInt32)
  | .idiv => match st with
    | .int y :: .int x :: r => if y = 0 then none else zi_nx (pc + 1) ls (.int (x / y) :: r) S
    | _ => none
  | .irem => match st with
    | .int y :: .int x :: r => if y = 0 then none else zi_nx (pc + 1) ls (.int (x - x / y * y) :: r) S
    | _ => none
  | .ineg => zi_i1 pc ls st S (fun x => -x)
  | .i2b => zi_i1 pc ls st S (fun x => x.toInt8.toInt32)
  | .i2s => zi_i1 pc ls st S (fun x => x.toInt16.toInt32)
  | .i2c => zi_i1 pc ls st S (fun x => (x.toUInt32 % 65536).toInt32)
  | .i2l => match st with
    | .int x :: r => zi_nx (pc + 1) ls (.long x.toInt64 :: r) S
    | _ => none
  | .ladd => zi_l2 pc ls st S (fun x y => x + y)
  | .lsub => zi_l2 pc ls st S (fun x y => x - y)
  | .lmul => zi_l2 pc ls st S (fun x y => x * y)
  | .ldiv => match st with
    | .long y :: .long x :: r => if y = 0 then none else zi_nx (pc + 1) ls (.long (x / y) :: r) S
    | _ => none
  | .lrem => match st with
    | .long y :: .long x :: r => if y = 0 then none else zi_nx (pc + 1) ls (.long (x - x / y * y) :: r) S
    | _ => none
  | .lcmp => match st with
    | .long y :: .long x :: r => zi_nx (pc + 1) ls (.int (lg_cmp x y) :: r) S
    | _ => none
  | .dup => match st with
    | v :: r => cond (zi_k1 v) (zi_nx (pc + 1) ls (v :: v :: r) S) none
    | _ => none
  | .dup2 => match st with
    | v :: w :: r => cond (zi_k1 v && zi_k1 w) (zi_nx (pc + 1) ls (v :: w :: v :: w :: r) S) none
    | _ => none
  | .pop => match st with
    | v :: r => cond (zi_k1 v) (zi_nx (pc + 1) ls r S) none
    | _ => none
  | .goto _ => zi_nx q.2.2.1 ls st S
  | .ifCond k _ => zi_if1 pc q.2.2.1 ls st S k
  | .if_icmp k _ => zi_if2 pc q.2.2.1 ls st S k
  | .tableswitch _ _ _ _ => match st with
    | .int v :: r => zi_nx (zi_sw v q.2.2.2.2 q.2.2.1) ls r S
    | _ => none
  | .lookupswitch _ _ => match st with
    | .int v :: r => zi_nx (zi_sw v q.2.2.2.2 q.2.2.1) ls r S
    | _ => none
  | .getfield _ => zi_getf pc ls st S q.2.2.1 q.2.2.2.1
  | .putfield _ => zi_putf pc ls st S q.2.2.1 q.2.2.2.1
  | .iaload => zi_ald pc ls st S 0
  | .baload => zi_bald pc ls st S
  | .laload => zi_lald pc ls st S
  | .aaload => zi_aald pc ls st S
  | .iastore => zi_ast pc ls st S 0 (fun v => v)
  | .bastore => zi_ast pc ls st S 2 (fun v => vp_nar .boolean v)
  | .lastore => zi_last pc ls st S
  | .aastore => zi_aast pc ls st S
  | .arraylength => zi_alen pc ls st S
  | .newarray .int => zi_mka 2 pc ls st S 0
  | .newarray .long => zi_mka 2 pc ls st S 1
  | .newarray .boolean => zi_mka 2 pc ls st S 2
  | .anewarray _ => zi_mka 3 pc ls st S 3
  | .new _ => cond (Nat.blt q.2.2.1 13) (zi_alloc 3 pc ls st S (.inr (q.2.2.1, zi_new q.2.2.1)) (zi_fn q.2.2.1)) none
  | .invokevirtual _ => zi_inv st S q.2.2.1 q.2.2.2.1
  | .invokespecial _ => cond (Nat.beq q.2.2.1 9000) (match st with
    | .ref _ :: r => cond (zi_sm r) (zi_nx (pc + 3) ls r S) none
    | _ => none) (zi_inv st S q.2.2.1 q.2.2.2.1)
  | .invokestatic _ => match q.2.2.1 with
    | 9001 => zi_m2 pc ls st S (fun x y => if x < y then y else x)
    | 9002 => zi_m2 pc ls st S (fun x y => if y < x then y else x)
    | 9003 => zi_cpy pc ls st S
    | n => zi_invs st n q.2.2.2.1
  | .ireturn => match ret, st with
    | 1, [.int v] => some (.inr (.inl (some (.int v))))
    | 2, [.int v] => if v = 0 ∨ v = 1 then some (.inr (.inl (some (.int v)))) else none
    | 4, [.int v] => if (v.toUInt32 % 65536).toInt32 = v then some (.inr (.inl (some (.int v)))) else none
    | 5, [.int v] => if v.toInt8.toInt32 = v then some (.inr (.inl (some (.int v)))) else none
    | _, _ => none
  | .lreturn => match ret, st with
    | 3, [.long v] => some (.inr (.inl (some (.long v))))
    | _, _ => none
  | .return_ => match ret, st with
    | 0, [] => some (.inr (.inl none))
    | _, _ => none
  | _ => none
end
section
/-! ===== the abstract machine and the machine: pictures ===== -/
def zi_v (ad : Nat → Nat) : Value → Value
  | .ref k => .ref (ad k)
  | v => v
def zi_e (cy : Nat → ClassId) (ad : Nat → Nat) : zi_C → va_E
  | .inl (t, n, .inl f) => .inl (cy t, n, .inl f)
  | .inl (t, n, .inr (.inl f)) => .inl (cy t, n, .inr (.inl f))
  | .inl (t, n, .inr (.inr (.inl f))) => .inl (cy t, n, .inr (.inr (.inl f)))
  | .inl (t, n, .inr (.inr (.inr (.inl f)))) => .inl (cy t, n, .inr (.inr (.inr (.inl f))))
  | .inl (t, n, .inr (.inr (.inr (.inr f)))) => .inl (cy t, n, .inr (.inr (.inr (.inr (fun i => (f i).map ad)))))
  | .inr (ci, fs) => .inr (ci, fs.map (zi_v ad))
def zi_w (cy : Nat → ClassId) (ad : Nat → Nat) (h : Nat → zi_C) (n : Nat) : va_W := (List.range n).map (fun k => (ad k, zi_e cy ad (h k)))
theorem zi_w_get {cy : Nat → ClassId} {ad : Nat → Nat} {h : Nat → zi_C} {n k : Nat} (hk : k < n) : (zi_w cy ad h n)[k]? = some (ad k, zi_e cy ad (h k)) := by
  simp [zi_w, hk]
theorem zi_w_len {cy : Nat → ClassId} {ad : Nat → Nat} {h : Nat → zi_C} {n : Nat} : (zi_w cy ad h n).length = n := by simp [zi_w]
theorem zi_w_inv {cy : Nat → ClassId} {ad : Nat → Nat} {h : Nat → zi_C} {n k : Nat} {q : Nat × va_E} (hq : (zi_w cy ad h n)[k]? = some q) : k < n ∧ q = (ad k, zi_e cy ad (h k)) := by
  have hl : k < n := by
    have := (List.getElem?_eq_some_iff.mp hq).1
    rwa [zi_w_len] at this
  rw [zi_w_get hl] at hq
  exact ⟨hl, (Option.some.inj hq).symm⟩
theorem zi_w_set {cy : Nat → ClassId} {ad : Nat → Nat} {h : Nat → zi_C} {n k : Nat} {c : zi_C} (hk : k < n) : (zi_w cy ad h n).set k (ad k, zi_e cy ad c) = zi_w cy ad (zi_put h k c) n := by
  apply List.ext_getElem?
  intro j
  rw [List.getElem?_set]
  by_cases hj : k = j
  · subst hj
    rw [if_pos rfl, zi_w_len, if_pos hk, zi_w_get hk]
    simp [zi_put, va_up]
  · rw [if_neg hj]
    by_cases hn : j < n
    · rw [zi_w_get hn, zi_w_get hn]
      simp [zi_put, va_up, Ne.symm hj]
    · rw [List.getElem?_eq_none (by rw [zi_w_len]; omega), List.getElem?_eq_none (by rw [zi_w_len]; omega)]
def zi_ok (n : Nat) : Value → Prop
  | .ref k => k < n ∨ 1000000 ≤ k
  | _ => True
def zi_okC (n : Nat) : zi_C → Prop
  | .inl (_, _, .inr (.inr (.inr (.inr f)))) => ∀ i k, f i = some k → k < n ∨ 1000000 ≤ k
  | .inl _ => True
  | .inr (_, fs) => ∀ v ∈ fs, zi_ok n v
def zi_ag (n : Nat) (ad ad' : Nat → Nat) : Prop := ∀ k, (k < n ∨ 1000000 ≤ k) → ad' k = ad k
theorem zi_ag.rf {n : Nat} {ad : Nat → Nat} : zi_ag n ad ad := fun _ _ => rfl
theorem zi_ok.mono {n n' : Nat} {v : Value} (hn : n ≤ n') (h : zi_ok n v) : zi_ok n' v := by
  cases v with
  | ref k => exact h.imp (fun q => Nat.lt_of_lt_of_le q hn) id
  | _ => trivial
theorem zi_okC.mono {n n' : Nat} {c : zi_C} (hn : n ≤ n') (h : zi_okC n c) : zi_okC n' c := by
  rcases c with ⟨t, k, f | f | f | f | f⟩ | ⟨ci, fs⟩
  · trivial
  · trivial
  · trivial
  · trivial
  · intro i k hk
    have := h i k hk
    omega
  · intro v hv
    exact (h v hv).mono hn
theorem zi_v_ag {n : Nat} {ad ad' : Nat → Nat} (ha : zi_ag n ad ad') {v : Value} (h : zi_ok n v) : zi_v ad' v = zi_v ad v := by
  cases v <;> simp only [zi_v]
  exact congrArg _ (ha _ h)
theorem zi_map_ag {n : Nat} {ad ad' : Nat → Nat} (ha : zi_ag n ad ad') {vs : List Value} (h : ∀ v ∈ vs, zi_ok n v) : vs.map (zi_v ad') = vs.map (zi_v ad) :=
  List.map_congr_left fun v hv => zi_v_ag ha (h v hv)
theorem zi_e_ag {n : Nat} {cy : Nat → ClassId} {ad ad' : Nat → Nat} (ha : zi_ag n ad ad') {c : zi_C} (h : zi_okC n c) : zi_e cy ad' c = zi_e cy ad c := by
  rcases c with ⟨t, k, f | f | f | f | f⟩ | ⟨ci, fs⟩
  · rfl
  · rfl
  · rfl
  · rfl
  · simp only [zi_e]
    refine congrArg (fun g => Sum.inl (cy t, k, Sum.inr (Sum.inr (Sum.inr (Sum.inr g))))) (funext fun i => ?_)
    cases hf : f i with
    | none => rfl
    | some j => exact congrArg some (ha _ (h i j hf))
  · simp only [zi_e]
    rw [zi_map_ag ha h]
theorem zi_w_push {cy : Nat → ClassId} {ad ad' : Nat → Nat} {h : Nat → zi_C} {n q : Nat} {c : zi_C} (ha : zi_ag n ad ad') (hq : ad' n = q) (hw : ∀ k, k < n → zi_okC n (h k)) : zi_w cy ad h n ++ [(q, zi_e cy ad' c)] = zi_w cy ad' (zi_put h n c) (n + 1) := by
  apply List.ext_getElem?
  intro j
  by_cases h1 : j < n
  · rw [List.getElem?_append_left (by rw [zi_w_len]; exact h1), zi_w_get h1, zi_w_get (by omega)]
    have e1 : zi_put h n c j = h j := by simp [zi_put, va_up, Nat.ne_of_lt h1]
    rw [e1, zi_e_ag ha (hw j h1), ha j (Or.inl h1)]
  · rw [List.getElem?_append_right (by rw [zi_w_len]; omega), zi_w_len]
    by_cases h2 : j = n
    · subst h2
      rw [Nat.sub_self, zi_w_get (by omega), hq]
      simp [zi_put, va_up]
    · have e1 : j - n = (j - n - 1) + 1 := by omega
      rw [e1, List.getElem?_eq_none (by simp), List.getElem?_eq_none (by rw [zi_w_len]; omega)]
/-! locals -/
def zi_Lv (ad : Nat → Nat) (ls : Array Slot) (nL n : Nat) (L : zi_L) : Prop := ls.size = nL ∧ L.length = nL ∧ lv_wf ls ∧ ∀ k v, zi_ld L k = some v → ls[k]? = some (.val (zi_v ad v)) ∧ zi_ok n v
def zi_as (ad : Nat → Nat) (L : zi_L) : List (Nat × Value) := (List.range L.length).filterMap fun k => (zi_ld L k).map fun v => (k, zi_v ad v)
theorem zi_as_mem {ad : Nat → Nat} {L : zi_L} {q : Nat × Value} : q ∈ zi_as ad L ↔ ∃ v, zi_ld L q.1 = some v ∧ q.2 = zi_v ad v := by
  unfold zi_as
  rw [List.mem_filterMap]
  constructor
  · rintro ⟨k, hk, h⟩
    cases hv : zi_ld L k with
    | none => rw [hv] at h; cases h
    | some v =>
      rw [hv] at h
      cases h
      exact ⟨v, hv, rfl⟩
  · rintro ⟨v, hv, h⟩
    refine ⟨q.1, ?_, by rw [hv]; simp [← h]⟩
    rw [List.mem_range]
    rcases Nat.lt_or_ge q.1 L.length with hl | hl
    · exact hl
    · simp [zi_ld, List.getElem?_eq_none hl] at hv
theorem zi_Lv.has {ad : Nat → Nat} {ls : Array Slot} {nL n : Nat} {L : zi_L} (h : zi_Lv ad ls nL n L) : lv_has ls nL (zi_as ad L) := by
  refine ⟨h.1, h.2.2.1, fun q hq => ?_⟩
  obtain ⟨v, hv, e⟩ := zi_as_mem.mp hq
  rw [e]
  exact (h.2.2.2 _ _ hv).1
theorem zi_v_cat (ad : Nat → Nat) (v : Value) : (zi_v ad v).category = v.category := by cases v <;> rfl
theorem zi_Lv.ag {ad ad' : Nat → Nat} {ls : Array Slot} {nL n n' : Nat} {L : zi_L} (ha : zi_ag n ad ad') (hn : n ≤ n') (h : zi_Lv ad ls nL n L) : zi_Lv ad' ls nL n' L :=
  ⟨h.1, h.2.1, h.2.2.1, fun k v hv => ⟨by rw [zi_v_ag ha (h.2.2.2 k v hv).2]; exact (h.2.2.2 k v hv).1, (h.2.2.2 k v hv).2.mono hn⟩⟩
theorem zi_kill_len (L : zi_L) (i : Nat) : (zi_kill L i).length = L.length := by
  cases i with
  | zero => rfl
  | succ i =>
    simp only [zi_kill]
    split <;> simp
theorem zi_kill_ld {L : zi_L} {i k : Nat} {v : Value} (h : zi_ld (zi_kill L i) k = some v) : zi_ld L k = some v ∧ ¬ (k + 1 = i ∧ v.category = 2) := by
  cases i with
  | zero => exact ⟨h, by omega⟩
  | succ i =>
    simp only [zi_kill] at h
    have key : ∀ (w : Value), L[i]? = some (some w) → zi_ld (L.set i none) k = some v → zi_ld L k = some v ∧ ¬ (k + 1 = i + 1 ∧ v.category = 2) := by
      intro w hw h
      simp only [zi_ld, List.getElem?_set] at h
      by_cases e : i = k
      · subst e
        simp only [if_true] at h
        split at h <;> simp_all
      · rw [if_neg e] at h
        exact ⟨h, by omega⟩
    split at h
    · exact key _ (by assumption) h
    · exact key _ (by assumption) h
    · rename_i h1 h2
      refine ⟨h, ?_⟩
      rintro ⟨e, hc⟩
      have e : k = i := by omega
      subst e
      simp only [zi_ld] at h
      split at h
      · rename_i w hw
        cases h
        cases v <;> simp [Value.category] at hc
        · exact h1 _ hw
        · exact h2 _ hw
      · cases h
theorem zi_st1_inv {L L' : zi_L} {i : Nat} {v : Value} (h : zi_st1 L i v = some L') : i < L.length ∧ L' = (zi_kill L i).set i (some v) := by
  unfold zi_st1 at h
  cases hb : Nat.blt i L.length with
  | false => rw [hb] at h; cases h
  | true =>
    rw [hb] at h
    exact ⟨Nat.le_of_ble_eq_true hb, (Option.some.inj h).symm⟩
theorem zi_st2_inv {L L' : zi_L} {i : Nat} {v : Value} (h : zi_st2 L i v = some L') : i + 1 < L.length ∧ L' = ((zi_kill L i).set i (some v)).set (i + 1) none := by
  unfold zi_st2 at h
  cases hb : Nat.blt (i + 1) L.length with
  | false => rw [hb] at h; cases h
  | true =>
    rw [hb] at h
    exact ⟨Nat.le_of_ble_eq_true hb, (Option.some.inj h).symm⟩
theorem zi_st1_ld {L L' : zi_L} {i k : Nat} {v w : Value} (h : zi_st1 L i v = some L') (hk : zi_ld L' k = some w) : (k = i ∧ w = v) ∨ (k ≠ i ∧ zi_ld L k = some w ∧ ¬ (k + 1 = i ∧ w.category = 2)) := by
  obtain ⟨hi, rfl⟩ := zi_st1_inv h
  by_cases e : k = i
  · subst e
    simp [zi_ld, List.getElem?_set, zi_kill_len, hi] at hk
    exact Or.inl ⟨rfl, hk.symm⟩
  · have h2 : zi_ld (zi_kill L i) k = some w := by
      simp only [zi_ld, List.getElem?_set, if_neg (Ne.symm e)] at hk
      exact hk
    exact Or.inr ⟨e, zi_kill_ld h2⟩
theorem zi_st2_ld {L L' : zi_L} {i k : Nat} {v w : Value} (h : zi_st2 L i v = some L') (hk : zi_ld L' k = some w) : (k = i ∧ w = v) ∨ (k ≠ i ∧ k ≠ i + 1 ∧ zi_ld L k = some w ∧ ¬ (k + 1 = i ∧ w.category = 2)) := by
  obtain ⟨hi, rfl⟩ := zi_st2_inv h
  by_cases e1 : k = i + 1
  · subst e1
    exfalso
    simp [zi_ld, List.getElem?_set, zi_kill_len] at hk
  · have h1 : zi_ld ((zi_kill L i).set i (some v)) k = some w := by
      simp only [zi_ld, List.getElem?_set (i := i + 1), if_neg (Ne.symm e1)] at hk
      exact hk
    by_cases e : k = i
    · subst e
      simp [zi_ld, List.getElem?_set, zi_kill_len, Nat.lt_of_succ_lt hi] at h1
      exact Or.inl ⟨rfl, h1.symm⟩
    · have h2 : zi_ld (zi_kill L i) k = some w := by
        simp only [zi_ld, List.getElem?_set, if_neg (Ne.symm e)] at h1
        exact h1
      exact Or.inr ⟨e, e1, zi_kill_ld h2⟩
theorem zi_Lv.st1 {ad : Nat → Nat} {ls ls' : Array Slot} {nL n : Nat} {L L' : zi_L} {i : Nat} {v : Value} (h : zi_Lv ad ls nL n L) (hs : zi_st1 L i v = some L') (hv : zi_ok n v)
    (h' : lv_has ls' nL ((i, zi_v ad v) :: (zi_as ad L).filter (fun q => !(q.1 == i) && !(q.1 + 1 == i && q.2.category == 2)))) : zi_Lv ad ls' nL n L' := by
  refine ⟨h'.1, ?_, h'.2.1, fun k w hk => ?_⟩
  · obtain ⟨-, rfl⟩ := zi_st1_inv hs
    rw [List.length_set, zi_kill_len]
    exact h.2.1
  · rcases zi_st1_ld hs hk with ⟨rfl, rfl⟩ | ⟨e, h1, h2⟩
    · exact ⟨h'.2.2 _ List.mem_cons_self, hv⟩
    · refine ⟨h'.2.2 (k, zi_v ad w) (List.mem_cons_of_mem _ (List.mem_filter.mpr ⟨zi_as_mem.mpr ⟨w, h1, rfl⟩, ?_⟩)), (h.2.2.2 _ _ h1).2⟩
      simp only [zi_v_cat]
      simp [e]
      exact Decidable.not_and_iff_or_not.mp h2
theorem zi_Lv.st2 {ad : Nat → Nat} {ls ls' : Array Slot} {nL n : Nat} {L L' : zi_L} {i : Nat} {v : Value} (h : zi_Lv ad ls nL n L) (hs : zi_st2 L i v = some L') (hv : zi_ok n v)
    (h' : lv_has ls' nL ((i, zi_v ad v) :: (zi_as ad L).filter (fun q => !(q.1 == i) && (!(q.1 == i + 1) && !(q.1 + 1 == i && q.2.category == 2))))) : zi_Lv ad ls' nL n L' := by
  refine ⟨h'.1, ?_, h'.2.1, fun k w hk => ?_⟩
  · obtain ⟨-, rfl⟩ := zi_st2_inv hs
    rw [List.length_set, List.length_set, zi_kill_len]
    exact h.2.1
  · rcases zi_st2_ld hs hk with ⟨rfl, rfl⟩ | ⟨e, e1, h1, h2⟩
    · exact ⟨h'.2.2 _ List.mem_cons_self, hv⟩
    · refine ⟨h'.2.2 (k, zi_v ad w) (List.mem_cons_of_mem _ (List.mem_filter.mpr ⟨zi_as_mem.mpr ⟨w, h1, rfl⟩, ?_⟩)), (h.2.2.2 _ _ h1).2⟩
      simp only [zi_v_cat]
      simp [e, e1]
      exact Decidable.not_and_iff_or_not.mp h2
end
section
/-! ===== one step of the abstract machine is a step of the machine ===== -/
def zi_cn (o : Nat) : String := match o with
  | 0 => RX0
  | 1 => RX1
  | 2 => RX2
  | 3 => RX3
  | 4 => RX4
  | 5 => RX5
  | 6 => RX6
  | 7 => RX7
  | 8 => RX8
  | 9 => RX9
  | 10 => RX10
  | 11 => RX11
  | 12 => RX12
  | 13 => "LocksBySongLaw"
  | 15 => RJ0
  | 16 => RJ1
  | _ => RJ6
def zi_tb : List Cond := lw_tbl.filter goodWord
def zi_isN : Cond → Bool
  | .fieldLinkNest _ _ _ _ _ _ => true
  | .methodLinkNest _ _ _ _ => true
  | .arrayOver (.object _) => true
  | _ => false
def zi_nw : List Cond := lw_tbl.filter zi_isN
/-- a method: its name, bytes, locals, what it returns (0 none, 1 int, 2 boolean, 3 long), how many parameters -/
abbrev zi_MI : Type := MethodName × ByteArray × Nat × Nat × Nat
def zi_rt : Nat → Option FieldType
  | 0 => none
  | 1 => some .int
  | 2 => some .boolean
  | 4 => some .char
  | 5 => some .byte
  | _ => some .long
def zi_gF (o ix x y : Nat) : Prop := ∃ r : vw_C, vwCl[x]? = some r ∧ y < r.2.2 ∧ (Cond.fieldLink (zi_cn o) ix (r.2.1 y).1 (r.2.1 y).2.1 (r.2.1 y).2.2.1 ∈ zi_tb ∨ ∃ host, Cond.fieldLinkNest (zi_cn o) ix (r.2.1 y).1 (r.2.1 y).2.1 (r.2.1 y).2.2.1 host ∈ zi_nw)
def zi_gP (nm : String) (o ix x y : Nat) : Prop := ∃ r : vw_C, vwCl[x]? = some r ∧ y < r.2.2 ∧ (((r.2.1 y).2.2.2 = true ∧ nm = "<init>" ∧ (r.2.1 y).1 = zi_cn o ∧ Cond.fieldLink (zi_cn o) ix (r.2.1 y).1 (r.2.1 y).2.1 (r.2.1 y).2.2.1 ∈ zi_tb) ∨ (r.2.1 y).2.2.2 = false ∧ (Cond.fieldLink (zi_cn o) ix (r.2.1 y).1 (r.2.1 y).2.1 (r.2.1 y).2.2.1 ∈ zi_tb ∨ ∃ host, Cond.fieldLinkNest (zi_cn o) ix (r.2.1 y).1 (r.2.1 y).2.1 (r.2.1 y).2.2.1 host ∈ zi_nw))
/-- what the tables say of a method -/
def zi_gM (M : Nat → Option zi_MI) (o ix x y : Nat) : Prop := ∃ (d : zi_MI), M x = some d ∧ d.2.2.2.2 = y ∧ d.1.cls = zi_cn (x / 200) ∧ Cond.initialized d.1.cls ∈ zi_tb ∧ (d.1.cls ≠ "java/lang/invoke/MethodHandle" ∧ d.1.cls ≠ "java/lang/invoke/VarHandle" ∧ (parseMethodDescriptor d.1.desc).map (fun q => q.parameters.length) = some y) ∧ Cond.code d.1 d.2.1 d.2.2.1 (zi_rt d.2.2.2.1) ∈ zi_tb ∧ d.2.2.1 ≤ 40 ∧ (Cond.methodLink (zi_cn o) ix d.1 ∈ zi_tb ∨ ∃ host, Cond.methodLinkNest (zi_cn o) ix d.1 host ∈ zi_nw)
def zi_gV (M : Nat → Option zi_MI) (o ix x y : Nat) : Prop := zi_gM M o ix x y ∧ ∀ d, M x = some d → Cond.instanceMethod d.1 ∈ zi_tb ∧ Cond.selects (zi_cn (x / 200)) d.1 d.1 ∈ zi_tb ∧ ((∃ r : vw_C, vwCl[x / 200]? = some r ∧ r.1 = zi_cn (x / 200)) ∨ x / 200 = 15)
def zi_gI (M : Nat → Option zi_MI) (o ix x y : Nat) : Prop := zi_gM M o ix x y ∧ ∀ d, M x = some d → Cond.instanceMethod d.1 ∈ zi_tb ∧ d.1.name = "<init>" ∧ d.2.2.2.1 = 0
def zi_gS (M : Nat → Option zi_MI) (o ix x y : Nat) : Prop := zi_gM M o ix x y ∧ ∀ d, M x = some d → Cond.static d.1 ∈ zi_tb
/-- where the texts are loaded: class, entry, which text -/
def zi_TT : List (Nat × Nat × Nat) := [(7, 96, 0), (12, 227, 0), (12, 235, 1), (12, 237, 2), (12, 239, 3), (12, 357, 4), (12, 424, 5)]
def zi_tx (j : Nat) : String := match j with
  | 0 => "ntlwucm"
  | 1 => "<>="
  | 2 => "+-"
  | 3 => "*/"
  | 4 => "hludr"
  | _ => "du"
def zi_len : List Nat := [7, 3, 2, 2, 5, 2]
/-- what is known of the texts: their cells, the flag of their form, where they are loaded -/
def zi_SF (ad : Nat → Nat) (A : Nat → Prop) (U : State) (H : Heap) : Prop := vk_S 6 zi_len zi_txt (fun j => ad (1000000 + 2 * j)) (fun j => ad (1000001 + 2 * j)) A U H ∧ va_Z "java/lang/String" "COMPACT_STRINGS" "Z" (.int 1) A U H ∧ ∀ q ∈ zi_TT, vk_R (zi_cn q.1) q.2.1 (zi_tx q.2.2) (ad (1000000 + 2 * q.2.2)) U
theorem zi_SF.ag {n : Nat} {ad ad' : Nat → Nat} {A : Nat → Prop} {U : State} {H : Heap} (ha : zi_ag n ad ad') (h : zi_SF ad A U H) : zi_SF ad' A U H := by
  have e1 : (fun j => ad' (1000000 + 2 * j)) = fun j => ad (1000000 + 2 * j) := funext fun j => ha _ (Or.inr (by omega))
  have e2 : (fun j => ad' (1000001 + 2 * j)) = fun j => ad (1000001 + 2 * j) := funext fun j => ha _ (Or.inr (by omega))
  refine ⟨by rw [e1, e2]; exact h.1, h.2.1, fun q hq => ?_⟩
  rw [ha (1000000 + 2 * q.2.2) (Or.inr (by omega))]
  exact h.2.2 q hq
theorem zi_SF.sub {ad : Nat → Nat} {A B : Nat → Prop} {u U : State} {H H1 : Heap} (h : zi_SF ad A u H) (hq : ∀ a : Nat, a < H.size → ¬ A a → H1[a]? = H[a]?) (hAB : ∀ q, B q → A q) (hW : u.WarmedH U.vm) : zi_SF ad B U H1 :=
  ⟨((h.1.kept hq).narrow hAB).moved hW.alike, ((h.2.1.kept hq).narrow hAB).moved hW.alike, fun q hq => (h.2.2 q hq).warm hW⟩
theorem zi_SF.same {ad : Nat → Nat} {A : Nat → Prop} {u U : State} {H : Heap} (h : zi_SF ad A u H) (hv : u.vm = U.vm) : zi_SF ad A U H :=
  ⟨h.1.moved (by rw [hv]; exact Vm.Alike.refl U.vm), h.2.1.moved (by rw [hv]; exact Vm.Alike.refl U.vm), fun q hq => (h.2.2 q hq).same hv.symm⟩
def zi_gG (o ix x y : Nat) : Prop := zi_gF o ix x y ∨ (x = 15 ∧ ((y = 0 ∧ Cond.fieldLink (zi_cn o) ix "java/lang/String" "value" "[B" ∈ zi_tb) ∨ (y = 1 ∧ Cond.fieldLink (zi_cn o) ix "java/lang/String" "coder" "B" ∈ zi_tb)))
def zi_gC (o ix x y : Nat) : Prop := match y with
  | 0 => Cond.constant (zi_cn o) ix (Int32.ofNat x) ∈ zi_tb
  | _ => ∃ j, x = 2 * j ∧ (o, ix, j) ∈ zi_TT
def zi_tsw (pc : Nat) (lo : Int) (offs : List Int) (z : List (Int32 × Nat)) : Prop := z.length = offs.length ∧ ∀ k, k < offs.length → ∃ (e : Int32 × Nat) (off : Int), z[k]? = some e ∧ offs[k]? = some off ∧ e.1.toInt = lo + k ∧ (pc : Int) + off = e.2
def zi_lsw (pc : Nat) : List (Int × Int) → List (Int32 × Nat) → Prop
  | [], [] => True
  | a :: as, b :: bs => b.1.toInt = a.1 ∧ (pc : Int) + a.2 = b.2 ∧ zi_lsw pc as bs
  | _, _ => False
def zi_good (M : Nat → Option zi_MI) (nm : String) (o pc : Nat) (q : zi_I) : Prop := match q.1 with
  | .ldc ix => zi_gC o ix q.2.2.1 q.2.2.2.1
  | .ldc_w ix => zi_gC o ix q.2.2.1 q.2.2.2.1
  | .getstatic ix => q.2.2.1 = 1 ∧ Cond.fieldLink (zi_cn o) ix "java/lang/String" "COMPACT_STRINGS" "Z" ∈ zi_tb
  | .ldc2_w ix => Cond.constantLong (zi_cn o) ix (Int64.ofNat q.2.2.1) ∈ zi_tb
  | .goto off => (pc : Int) + off = q.2.2.1
  | .ifCond _ off => (pc : Int) + off = q.2.2.1
  | .if_icmp _ off => (pc : Int) + off = q.2.2.1
  | .tableswitch d lo hi offs => (pc : Int) + d = q.2.2.1 ∧ hi = lo + offs.size - 1 ∧ zi_tsw pc lo offs.toList q.2.2.2.2
  | .lookupswitch d ps => (pc : Int) + d = q.2.2.1 ∧ (ps.toList.zip (ps.toList.drop 1)).all (fun (a, next) => a.1 < next.1) = true ∧ zi_lsw pc ps.toList q.2.2.2.2
  | .getfield ix => zi_gG o ix q.2.2.1 q.2.2.2.1
  | .putfield ix => zi_gP nm o ix q.2.2.1 q.2.2.2.1
  | .newarray t => Cond.arrayClass (newarray.typeOf t) ∈ zi_tb
  | .anewarray ix => Cond.classLink (zi_cn o) ix RX3 ∈ zi_tb ∧ Cond.arrayOver (.object RX3) ∈ zi_nw
  | .new ix => ∃ r : vw_C, vwCl[q.2.2.1]? = some r ∧ r.2.2 = zi_fn q.2.2.1 ∧ Cond.classLink (zi_cn o) ix r.1 ∈ zi_tb ∧ Cond.instantiable r.1 r.2.2 ∈ zi_tb ∧ Cond.initialized r.1 ∈ zi_tb
  | .invokevirtual ix => zi_gV M o ix q.2.2.1 q.2.2.2.1
  | .invokespecial ix => if q.2.2.1 = 9000 then Cond.methodLink (zi_cn o) ix Lib.objectInit ∈ zi_tb ∧ Cond.instanceMethod Lib.objectInit ∈ zi_tb ∧ Cond.code Lib.objectInit ⟨#[0xb1]⟩ 1 none ∈ zi_tb else zi_gI M o ix q.2.2.1 q.2.2.2.1
  | .invokestatic ix => if q.2.2.1 = 9001 then Cond.methodLink (zi_cn o) ix Lib.Math.max.name ∈ zi_tb ∧ Cond.static Lib.Math.max.name ∈ zi_tb ∧ Cond.initialized "java/lang/Math" ∈ zi_tb ∧ Cond.code Lib.Math.max.name Lib.Math.max.code 2 (some .int) ∈ zi_tb
    else if q.2.2.1 = 9002 then Cond.methodLink (zi_cn o) ix Lib.Math.min.name ∈ zi_tb ∧ Cond.static Lib.Math.min.name ∈ zi_tb ∧ Cond.initialized "java/lang/Math" ∈ zi_tb ∧ Cond.code Lib.Math.min.name Lib.Math.min.code 2 (some .int) ∈ zi_tb
    else if q.2.2.1 = 9003 then Cond.methodLink (zi_cn o) ix arraycopyName ∈ zi_tb ∧ Cond.native arraycopyName ∈ zi_tb ∧ Cond.static arraycopyName ∈ zi_tb ∧ Cond.initialized "java/lang/System" ∈ zi_tb
    else zi_gS M o ix q.2.2.1 q.2.2.2.1
  | _ => True
def zi_tys (cy : Nat → ClassId) : List (ClassId × FieldType) := [(cy 0, .int), (cy 1, .long), (cy 2, .boolean), (cy 3, .object RX3)]
/-- what the tables say of the classes -/
def zi_cls : Prop := ∀ (ci : Nat) (r : vw_C), vwCl[ci]? = some r → (∀ w ∈ u_ws r.1 r.2.1 r.2.2, w ∈ zi_tb) ∧ (∀ k, k < r.2.2 → parseFieldDescriptor (r.2.1 k).2.2.1 = some (zi_ft ci k)) ∧ (∀ a, a < r.2.2 → ∀ b, b < r.2.2 → a ≠ b → (r.2.1 a).2.1 ≠ (r.2.1 b).2.1)
/-- what holds all along a method's body -/
def zi_X (p : Program) (s : State) (m : MethodId) (args : Array Value) (meth : Method) (c : Code) (R : Room) (D : va_G) (cy : Nat → ClassId) (A : Nat → Prop) (cc : ByteArray) (nL : Nat) (o : Nat) (nm : String) (rt : Nat) (ad0 : Nat → Nat) : Prop :=
  p.tables.exec = Jvm.exec ∧ c.code = cc ∧ c.maxLocals = nL ∧ s.vm.findClass (zi_cn o) = some m.cls ∧ (∀ w ∈ zi_tb, w.before args s = true) ∧ (∀ w ∈ zi_nw, va_Nw w s) ∧ va_K D vwCl (zi_tys cy) s ∧ (∀ q, s.heap.size ≤ q → A q) ∧ zi_cls ∧ meth.name = nm ∧ meth.sig.returnType = zi_rt rt ∧ meth.locks = false ∧ 1 ≤ R.frames ∧ 64 ≤ R.locals ∧ zi_SF ad0 A s s.heap
def zi_Hp (D : va_G) (cy : Nat → ClassId) (A : Nat → Prop) (ad : Nat → Nat) (H0 H : Heap) (locs : List Loc) (S : zi_S) : Prop := va_P D vwCl (zi_w cy ad S.1 S.2.1) H ∧ va_D A (zi_w cy ad S.1 S.2.1) ∧ va_S A H0 H locs ∧ (∀ k, k < S.2.1 → zi_okC S.2.1 (S.1 k)) ∧ S.2.1 ≤ 1000000 ∧ ∀ k, 1000000 ≤ k → S.1 k = zi_ro k
/-- from every heap, locals and stack that the picture fits, the machine comes to Q -/
def zi_Go (p : Program) (l : Launch) (e : Env) (R : Room) (s : State) (m : MethodId) (args : Array Value) (below : List Frame) (meth : Method) (c : Code) (Q : State → Prop) (D : va_G) (cy : Nat → ClassId) (A : Nat → Prop) (nL n0 : Nat) (ad0 : Nat → Nat) (k0 s0 : Nat) (pc : Nat) (L : zi_L) (st : List Value) (S : zi_S) : Prop :=
  ∀ (ad : Nat → Nat) (ls : Array Slot) (H : Heap) (locs : List Loc), zi_ag n0 ad0 ad → zi_Hp D cy A ad s.heap H locs S → zi_Lv ad ls nL S.2.1 L → (∀ v ∈ st, zi_ok S.2.1 v) → W p l e R s m args below meth c H locs (S.2.2.1 - k0) (S.2.2.2 - s0) Q (F0 m pc ls (st.map (zi_v ad)))
/-- an instruction's length -/
def zi_ln (i : ClassFile.Instr) (len : Nat) : Nat := match i with
  | .bipush _ => 2
  | .ldc _ => 2
  | .iload _ => 2
  | .lload _ => 2
  | .aload _ => 2
  | .istore _ => 2
  | .lstore _ => 2
  | .astore _ => 2
  | .newarray _ => 2
  | .sipush _ => 3
  | .getstatic _ => 3
  | .ldc_w _ => 3
  | .ldc2_w _ => 3
  | .iinc _ _ => 3
  | .goto _ => 3
  | .ifCond _ _ => 3
  | .if_icmp _ _ => 3
  | .getfield _ => 3
  | .putfield _ => 3
  | .anewarray _ => 3
  | .new _ => 3
  | .invokevirtual _ => 3
  | .invokespecial _ => 3
  | .invokestatic _ => 3
  | .tableswitch _ _ _ _ => len
  | .lookupswitch _ _ => len
  | _ => 1
theorem zi_nx_inv {a pc' : Nat} {b L' : zi_L} {c st' : List Value} {d S' : zi_S} (h : zi_nx a b c d = some (.inl (pc', L', st', S'))) : pc' = a ∧ L' = b ∧ st' = c ∧ S' = d := by
  cases h
  exact ⟨rfl, rfl, rfl, rfl⟩
theorem zi_cond_inv {α : Type} {b : Bool} {x : Option α} {y : α} (h : cond b x none = some y) : b = true ∧ x = some y := by
  cases b
  · cases h
  · exact ⟨rfl, h⟩
theorem zi_i1_inv {pc pc' : Nat} {L L' : zi_L} {st st' : List Value} {S S' : zi_S} {f : Int32 → Int32} (h : zi_i1 pc L st S f = some (.inl (pc', L', st', S'))) : ∃ x r, st = .int x :: r ∧ pc' = pc + 1 ∧ L' = L ∧ st' = .int (f x) :: r ∧ S' = S := by
  unfold zi_i1 at h
  split at h
  · exact ⟨_, _, rfl, zi_nx_inv h⟩
  · cases h
theorem zi_i2_inv {pc pc' : Nat} {L L' : zi_L} {st st' : List Value} {S S' : zi_S} {f : Int32 → Int32 → Int32} (h : zi_i2 pc L st S f = some (.inl (pc', L', st', S'))) : ∃ x y r, st = .int y :: .int x :: r ∧ pc' = pc + 1 ∧ L' = L ∧ st' = .int (f x y) :: r ∧ S' = S := by
  unfold zi_i2 at h
  split at h
  · exact ⟨_, _, _, rfl, zi_nx_inv h⟩
  · cases h
theorem zi_l2_inv {pc pc' : Nat} {L L' : zi_L} {st st' : List Value} {S S' : zi_S} {f : Int64 → Int64 → Int64} (h : zi_l2 pc L st S f = some (.inl (pc', L', st', S'))) : ∃ x y r, st = .long y :: .long x :: r ∧ pc' = pc + 1 ∧ L' = L ∧ st' = .long (f x y) :: r ∧ S' = S := by
  unfold zi_l2 at h
  split at h
  · exact ⟨_, _, _, rfl, zi_nx_inv h⟩
  · cases h
theorem zi_lod_inv {n pc pc' i : Nat} {L L' : zi_L} {st st' : List Value} {S S' : zi_S} {k : Value → Bool} (h : zi_lod n pc L st S i k = some (.inl (pc', L', st', S'))) : ∃ v, zi_ld L i = some v ∧ k v = true ∧ pc' = pc + n ∧ L' = L ∧ st' = v :: st ∧ S' = S := by
  unfold zi_lod at h
  split at h
  · rename_i v hv
    obtain ⟨h1, h2⟩ := zi_cond_inv h
    exact ⟨v, hv, h1, zi_nx_inv h2⟩
  · cases h
theorem zi_sto_inv {n pc pc' i : Nat} {L L' : zi_L} {st st' : List Value} {S S' : zi_S} {k : Value → Bool} (h : zi_sto n pc L st S i k = some (.inl (pc', L', st', S'))) : ∃ v, st = v :: st' ∧ k v = true ∧ zi_st1 L i v = some L' ∧ pc' = pc + n ∧ S' = S := by
  unfold zi_sto at h
  split at h
  · rename_i v r
    obtain ⟨h1, h2⟩ := zi_cond_inv h
    obtain ⟨L1, h3, h4⟩ := Option.bind_eq_some_iff.mp h2
    obtain ⟨rfl, rfl, rfl, rfl⟩ := zi_nx_inv h4
    exact ⟨v, rfl, h1, h3, rfl, rfl⟩
  · cases h
theorem zi_sto2_inv {n pc pc' i : Nat} {L L' : zi_L} {st st' : List Value} {S S' : zi_S} (h : zi_sto2 n pc L st S i = some (.inl (pc', L', st', S'))) : ∃ v, st = .long v :: st' ∧ zi_st2 L i (.long v) = some L' ∧ pc' = pc + n ∧ S' = S := by
  unfold zi_sto2 at h
  split at h
  · rename_i v r
    obtain ⟨L1, h3, h4⟩ := Option.bind_eq_some_iff.mp h
    obtain ⟨rfl, rfl, rfl, rfl⟩ := zi_nx_inv h4
    exact ⟨v, rfl, h3, rfl, rfl⟩
  · cases h
theorem zi_kI_inv {v : Value} (h : zi_kI v = true) : ∃ x, v = .int x := by cases v <;> first | exact ⟨_, rfl⟩ | cases h
theorem zi_kL_inv {v : Value} (h : zi_kL v = true) : ∃ x, v = .long x := by cases v <;> first | exact ⟨_, rfl⟩ | cases h
theorem zi_kR_inv {v : Value} (h : zi_kR v = true) : ∃ x, v = .ref x := by cases v <;> first | exact ⟨_, rfl⟩ | cases h
theorem zi_k1_cat {v : Value} (h : zi_k1 v = true) : v.category = 1 := by cases v <;> first | rfl | cases h
theorem zi_br_inv {pc tgt pc' : Nat} {L L' : zi_L} {r st' : List Value} {S S' : zi_S} {b : Prop} [Decidable b] (h : zi_br pc tgt L r S b = some (.inl (pc', L', st', S'))) : L' = L ∧ st' = r ∧ S' = S ∧ (b → pc' = tgt) ∧ (¬ b → pc' = pc + 3) := by
  unfold zi_br at h
  split at h
  · rename_i hb
    obtain ⟨rfl, rfl, rfl, rfl⟩ := zi_nx_inv h
    exact ⟨rfl, rfl, rfl, fun _ => rfl, fun q => absurd hb q⟩
  · rename_i hb
    obtain ⟨rfl, rfl, rfl, rfl⟩ := zi_nx_inv h
    exact ⟨rfl, rfl, rfl, fun q => absurd q hb, fun _ => rfl⟩
theorem zi_in_vp {i : Int32} {n : Nat} (h : zi_in i n = true) : vp_in i n := by
  unfold zi_in at h
  simp only [Bool.and_eq_true, Bool.not_eq_true', decide_eq_false_iff_not] at h
  intro q
  rcases q with q | q
  · exact h.1 q
  · exact absurd (Nat.le_of_ble_eq_true h.2) (by omega)
theorem zi_all_cons {n : Nat} {v : Value} {r : List Value} (h1 : zi_ok n v) (h2 : ∀ w ∈ r, zi_ok n w) : ∀ w ∈ v :: r, zi_ok n w := fun w h => by
  rcases List.mem_cons.mp h with rfl | h
  · exact h1
  · exact h2 w h
theorem zi_all_tail {n : Nat} {v : Value} {r : List Value} (h : ∀ w ∈ v :: r, zi_ok n w) : ∀ w ∈ r, zi_ok n w := fun w q => h w (List.mem_cons_of_mem _ q)
theorem zi_all_head {n : Nat} {v : Value} {r : List Value} (h : ∀ w ∈ v :: r, zi_ok n w) : zi_ok n v := h v List.mem_cons_self
end
section
/-! ===== the steps, by their kinds ===== -/
section ZT
variable {p : Program} {l : Launch} {e : Env} {R : Room} {s : State} {m : MethodId} {args : Array Value} {below : List Frame} {meth : Method} {c : Code} {Q : State → Prop} {D : va_G} {cy : Nat → ClassId} {A : Nat → Prop} {cc : ByteArray} {nL n0 k0 s0 o rt n i : Nat} {nm : String} {ad0 : Nat → Nat} {pc pc' : Nat} {L L' : zi_L} {st st' : List Value} {S S' : zi_S}
theorem zi_q_push {v : Value} (hv : v.category = 1 ∨ v.category = 2) (hv2 : ∀ n, zi_ok n v) (hv3 : ∀ ad, zi_v ad v = v) (row : ∀ {H : Heap} {locs : List Loc} {cells slots : Nat} {ls : Array Slot} {rest : List Value}, W p l e R s m args below meth c H locs cells slots Q (F0 m (pc + n) ls (v :: rest)) → W p l e R s m args below meth c H locs cells slots Q (F0 m pc ls rest)) (hex : zi_nx (pc + n) L (v :: st) S = some (.inl (pc', L', st', S'))) (kk : zi_Go p l e R s m args below meth c Q D cy A nL n0 ad0 k0 s0 pc' L' st' S') : zi_Go p l e R s m args below meth c Q D cy A nL n0 ad0 k0 s0 pc L st S := by
  obtain ⟨rfl, rfl, rfl, rfl⟩ := zi_nx_inv hex
  intro ad ls H locs hag hH hL hst
  have k := kk ad ls H locs hag hH hL (zi_all_cons (hv2 _) hst)
  rw [List.map_cons, hv3] at k
  exact row k
theorem zi_q_i1 {f : Int32 → Int32} (row : ∀ {H : Heap} {locs : List Loc} {cells slots : Nat} {ls : Array Slot} {rest : List Value} {x : Int32}, W p l e R s m args below meth c H locs cells slots Q (F0 m (pc + 1) ls (.int (f x) :: rest)) → W p l e R s m args below meth c H locs cells slots Q (F0 m pc ls (.int x :: rest))) (hex : zi_i1 pc L st S f = some (.inl (pc', L', st', S'))) (kk : zi_Go p l e R s m args below meth c Q D cy A nL n0 ad0 k0 s0 pc' L' st' S') : zi_Go p l e R s m args below meth c Q D cy A nL n0 ad0 k0 s0 pc L st S := by
  obtain ⟨x, r, rfl, rfl, rfl, rfl, rfl⟩ := zi_i1_inv hex
  intro ad ls H locs hag hH hL hst
  exact row (kk ad ls H locs hag hH hL (zi_all_cons trivial (zi_all_tail hst)))
theorem zi_q_i2 {f : Int32 → Int32 → Int32} (row : ∀ {H : Heap} {locs : List Loc} {cells slots : Nat} {ls : Array Slot} {rest : List Value} {x y : Int32}, W p l e R s m args below meth c H locs cells slots Q (F0 m (pc + 1) ls (.int (f x y) :: rest)) → W p l e R s m args below meth c H locs cells slots Q (F0 m pc ls (.int y :: .int x :: rest))) (hex : zi_i2 pc L st S f = some (.inl (pc', L', st', S'))) (kk : zi_Go p l e R s m args below meth c Q D cy A nL n0 ad0 k0 s0 pc' L' st' S') : zi_Go p l e R s m args below meth c Q D cy A nL n0 ad0 k0 s0 pc L st S := by
  obtain ⟨x, y, r, rfl, rfl, rfl, rfl, rfl⟩ := zi_i2_inv hex
  intro ad ls H locs hag hH hL hst
  exact row (kk ad ls H locs hag hH hL (zi_all_cons trivial (zi_all_tail (zi_all_tail hst))))
theorem zi_q_l2 {f : Int64 → Int64 → Int64} (row : ∀ {H : Heap} {locs : List Loc} {cells slots : Nat} {ls : Array Slot} {rest : List Value} {x y : Int64}, W p l e R s m args below meth c H locs cells slots Q (F0 m (pc + 1) ls (.long (f x y) :: rest)) → W p l e R s m args below meth c H locs cells slots Q (F0 m pc ls (.long y :: .long x :: rest))) (hex : zi_l2 pc L st S f = some (.inl (pc', L', st', S'))) (kk : zi_Go p l e R s m args below meth c Q D cy A nL n0 ad0 k0 s0 pc' L' st' S') : zi_Go p l e R s m args below meth c Q D cy A nL n0 ad0 k0 s0 pc L st S := by
  obtain ⟨x, y, r, rfl, rfl, rfl, rfl, rfl⟩ := zi_l2_inv hex
  intro ad ls H locs hag hH hL hst
  exact row (kk ad ls H locs hag hH hL (zi_all_cons trivial (zi_all_tail (zi_all_tail hst))))
theorem zi_q_iload (row : ∀ {H : Heap} {locs : List Loc} {cells slots : Nat} {ls : Array Slot} {rest : List Value} {x : Int32}, ls[i]? = some (.val (.int x)) → W p l e R s m args below meth c H locs cells slots Q (F0 m (pc + n) ls (.int x :: rest)) → W p l e R s m args below meth c H locs cells slots Q (F0 m pc ls rest)) (hex : zi_lod n pc L st S i zi_kI = some (.inl (pc', L', st', S'))) (kk : zi_Go p l e R s m args below meth c Q D cy A nL n0 ad0 k0 s0 pc' L' st' S') : zi_Go p l e R s m args below meth c Q D cy A nL n0 ad0 k0 s0 pc L st S := by
  obtain ⟨v, hv, hk, rfl, rfl, rfl, rfl⟩ := zi_lod_inv hex
  obtain ⟨x, rfl⟩ := zi_kI_inv hk
  intro ad ls H locs hag hH hL hst
  exact row (hL.2.2.2 _ _ hv).1 (kk ad ls H locs hag hH hL (zi_all_cons trivial hst))
theorem zi_q_lload (row : ∀ {H : Heap} {locs : List Loc} {cells slots : Nat} {ls : Array Slot} {rest : List Value} {x : Int64}, ls[i]? = some (.val (.long x)) → W p l e R s m args below meth c H locs cells slots Q (F0 m (pc + n) ls (.long x :: rest)) → W p l e R s m args below meth c H locs cells slots Q (F0 m pc ls rest)) (hex : zi_lod n pc L st S i zi_kL = some (.inl (pc', L', st', S'))) (kk : zi_Go p l e R s m args below meth c Q D cy A nL n0 ad0 k0 s0 pc' L' st' S') : zi_Go p l e R s m args below meth c Q D cy A nL n0 ad0 k0 s0 pc L st S := by
  obtain ⟨v, hv, hk, rfl, rfl, rfl, rfl⟩ := zi_lod_inv hex
  obtain ⟨x, rfl⟩ := zi_kL_inv hk
  intro ad ls H locs hag hH hL hst
  exact row (hL.2.2.2 _ _ hv).1 (kk ad ls H locs hag hH hL (zi_all_cons trivial hst))
theorem zi_q_aload (row : ∀ {H : Heap} {locs : List Loc} {cells slots : Nat} {ls : Array Slot} {rest : List Value} {x : Nat}, ls[i]? = some (.val (.ref x)) → W p l e R s m args below meth c H locs cells slots Q (F0 m (pc + n) ls (.ref x :: rest)) → W p l e R s m args below meth c H locs cells slots Q (F0 m pc ls rest)) (hex : zi_lod n pc L st S i zi_kR = some (.inl (pc', L', st', S'))) (kk : zi_Go p l e R s m args below meth c Q D cy A nL n0 ad0 k0 s0 pc' L' st' S') : zi_Go p l e R s m args below meth c Q D cy A nL n0 ad0 k0 s0 pc L st S := by
  obtain ⟨v, hv, hk, rfl, rfl, rfl, rfl⟩ := zi_lod_inv hex
  obtain ⟨x, rfl⟩ := zi_kR_inv hk
  intro ad ls H locs hag hH hL hst
  exact row (hL.2.2.2 _ _ hv).1 (kk ad ls H locs hag hH hL (zi_all_cons (hL.2.2.2 _ _ hv).2 hst))
theorem zi_q_istore (row : ∀ {H : Heap} {locs : List Loc} {cells slots : Nat} {ls : Array Slot} {rest : List Value} {x : Int32} {lv : List (Nat × Value)}, lv_has ls nL lv → i < nL → (∀ ls' : Array Slot, lv_has ls' nL ((i, Value.int x) :: lv.filter (fun q => !(q.1 == i) && !(q.1 + 1 == i && q.2.category == 2))) → W p l e R s m args below meth c H locs cells slots Q (F0 m (pc + n) ls' rest)) → W p l e R s m args below meth c H locs cells slots Q (F0 m pc ls (.int x :: rest))) (hex : zi_sto n pc L st S i zi_kI = some (.inl (pc', L', st', S'))) (kk : zi_Go p l e R s m args below meth c Q D cy A nL n0 ad0 k0 s0 pc' L' st' S') : zi_Go p l e R s m args below meth c Q D cy A nL n0 ad0 k0 s0 pc L st S := by
  obtain ⟨v, rfl, hk, h1, rfl, rfl⟩ := zi_sto_inv hex
  obtain ⟨x, rfl⟩ := zi_kI_inv hk
  intro ad ls H locs hag hH hL hst
  exact row hL.has (by rw [← hL.2.1]; exact (zi_st1_inv h1).1) fun ls' hl' => kk ad ls' H locs hag hH (hL.st1 h1 trivial hl') (zi_all_tail hst)
theorem zi_q_astore (row : ∀ {H : Heap} {locs : List Loc} {cells slots : Nat} {ls : Array Slot} {rest : List Value} {x : Nat} {lv : List (Nat × Value)}, lv_has ls nL lv → i < nL → (∀ ls' : Array Slot, lv_has ls' nL ((i, Value.ref x) :: lv.filter (fun q => !(q.1 == i) && !(q.1 + 1 == i && q.2.category == 2))) → W p l e R s m args below meth c H locs cells slots Q (F0 m (pc + n) ls' rest)) → W p l e R s m args below meth c H locs cells slots Q (F0 m pc ls (.ref x :: rest))) (hex : zi_sto n pc L st S i zi_kR = some (.inl (pc', L', st', S'))) (kk : zi_Go p l e R s m args below meth c Q D cy A nL n0 ad0 k0 s0 pc' L' st' S') : zi_Go p l e R s m args below meth c Q D cy A nL n0 ad0 k0 s0 pc L st S := by
  obtain ⟨v, rfl, hk, h1, rfl, rfl⟩ := zi_sto_inv hex
  obtain ⟨x, rfl⟩ := zi_kR_inv hk
  intro ad ls H locs hag hH hL hst
  exact row hL.has (by rw [← hL.2.1]; exact (zi_st1_inv h1).1) fun ls' hl' => kk ad ls' H locs hag hH (hL.st1 h1 (zi_all_head hst) hl') (zi_all_tail hst)
theorem zi_q_lstore (row : ∀ {H : Heap} {locs : List Loc} {cells slots : Nat} {ls : Array Slot} {rest : List Value} {x : Int64} {lv : List (Nat × Value)}, lv_has ls nL lv → i + 1 < nL → (∀ ls' : Array Slot, lv_has ls' nL ((i, Value.long x) :: lv.filter (fun q => !(q.1 == i) && (!(q.1 == i + 1) && !(q.1 + 1 == i && q.2.category == 2)))) → W p l e R s m args below meth c H locs cells slots Q (F0 m (pc + n) ls' rest)) → W p l e R s m args below meth c H locs cells slots Q (F0 m pc ls (.long x :: rest))) (hex : zi_sto2 n pc L st S i = some (.inl (pc', L', st', S'))) (kk : zi_Go p l e R s m args below meth c Q D cy A nL n0 ad0 k0 s0 pc' L' st' S') : zi_Go p l e R s m args below meth c Q D cy A nL n0 ad0 k0 s0 pc L st S := by
  obtain ⟨x, rfl, h1, rfl, rfl⟩ := zi_sto2_inv hex
  intro ad ls H locs hag hH hL hst
  exact row hL.has (by rw [← hL.2.1]; exact (zi_st2_inv h1).1) fun ls' hl' => kk ad ls' H locs hag hH (hL.st2 h1 trivial hl') (zi_all_tail hst)
theorem zi_q_br {b : Prop} [Decidable b] {tgt : Nat} {r : List Value} (row : ∀ {H : Heap} {locs : List Loc} {cells slots : Nat} {ls : Array Slot} {rest : List Value}, (b → W p l e R s m args below meth c H locs cells slots Q (F0 m tgt ls rest)) → (¬ b → W p l e R s m args below meth c H locs cells slots Q (F0 m (pc + 3) ls rest)) → W p l e R s m args below meth c H locs cells slots Q (F0 m pc ls (st.map (zi_v ad0) ++ rest))) (hst0 : ∀ ad, st.map (zi_v ad) = st.map (zi_v ad0)) (hex : zi_br pc tgt L r S b = some (.inl (pc', L', st', S'))) (kk : zi_Go p l e R s m args below meth c Q D cy A nL n0 ad0 k0 s0 pc' L' st' S') : zi_Go p l e R s m args below meth c Q D cy A nL n0 ad0 k0 s0 pc L (st ++ r) S := by
  obtain ⟨rfl, rfl, rfl, h1, h2⟩ := zi_br_inv hex
  intro ad ls H locs hag hH hL hst
  rw [List.map_append, hst0 ad]
  refine row (fun hb => ?_) (fun hb => ?_)
  · have := kk ad ls H locs hag hH hL (fun v hv => hst v (List.mem_append_right _ hv))
    rw [h1 hb] at this
    exact this
  · have := kk ad ls H locs hag hH hL (fun v hv => hst v (List.mem_append_right _ hv))
    rw [h2 hb] at this
    exact this
end ZT
end
section
/-! ===== the steps that touch the heap ===== -/
theorem zi_blt {a b : Nat} (h : Nat.blt a b = true) : a < b := Nat.le_of_ble_eq_true h
theorem zi_or {a n : Nat} (h : (Nat.blt a n || Nat.ble 1000000 a) = true) : a < n ∨ 1000000 ≤ a := by
  rw [Bool.or_eq_true] at h
  exact h.imp zi_blt Nat.le_of_ble_eq_true
theorem zi_beq {a b : Nat} (h : Nat.beq a b = true) : a = b := Nat.eq_of_beq_eq_true h
theorem zi_getf_inv {pc pc' x y : Nat} {L L' : zi_L} {st st' : List Value} {S S' : zi_S} (h : zi_getf pc L st S x y = some (.inl (pc', L', st', S'))) : ∃ (a : Nat) (r fs : List Value) (v : Value), st = .ref a :: r ∧ S.1 a = .inr (x, fs) ∧ (a < S.2.1 ∨ 1000000 ≤ a) ∧ fs[y]? = some v ∧ pc' = pc + 3 ∧ L' = L ∧ st' = v :: r ∧ S' = S := by
  unfold zi_getf at h
  split at h
  · rename_i a r
    split at h
    · rename_i ci fs hc
      obtain ⟨h1, h2⟩ := zi_cond_inv h
      rw [Bool.and_eq_true] at h1
      have hx := zi_beq h1.1
      subst hx
      split at h2
      · rename_i v hv
        exact ⟨a, r, fs, v, rfl, hc, zi_or h1.2, hv, zi_nx_inv h2⟩
      · cases h2
    · cases h
  · cases h
theorem zi_putf_inv {pc pc' x y : Nat} {L L' : zi_L} {st st' : List Value} {S S' : zi_S} (h : zi_putf pc L st S x y = some (.inl (pc', L', st', S'))) : ∃ a fs v, st = v :: .ref a :: st' ∧ S.1 a = .inr (x, fs) ∧ a < S.2.1 ∧ y < fs.length ∧ zi_fv (zi_ft x y) v = true ∧ pc' = pc + 3 ∧ L' = L ∧ S' = (zi_put S.1 a (.inr (x, fs.set y v)), S.2) := by
  unfold zi_putf at h
  split at h
  · rename_i v a r
    split at h
    · rename_i ci fs hc
      obtain ⟨h1, h2⟩ := zi_cond_inv h
      simp only [Bool.and_eq_true] at h1
      have hx := zi_beq h1.1
      subst hx
      obtain ⟨rfl, rfl, rfl, rfl⟩ := zi_nx_inv h2
      exact ⟨a, fs, v, rfl, hc, zi_blt h1.2.1, zi_blt h1.2.2.1, h1.2.2.2, rfl, rfl, rfl⟩
    · cases h
  · cases h
theorem zi_ald_inv {pc pc' t : Nat} {L L' : zi_L} {st st' : List Value} {S S' : zi_S} (h : zi_ald pc L st S t = some (.inl (pc', L', st', S'))) : ∃ i a r n f, st = .int i :: .ref a :: r ∧ S.1 a = .inl (t, n, .inl f) ∧ a < S.2.1 ∧ vp_in i n ∧ pc' = pc + 1 ∧ L' = L ∧ st' = .int (f i.toNatClampNeg) :: r ∧ S' = S := by
  unfold zi_ald at h
  split at h
  · rename_i i a r
    split at h
    · rename_i t' n f hc
      obtain ⟨h1, h2⟩ := zi_cond_inv h
      simp only [Bool.and_eq_true] at h1
      have hx := zi_beq h1.1
      subst hx
      exact ⟨i, a, r, n, f, rfl, hc, zi_blt h1.2.1, zi_in_vp h1.2.2, zi_nx_inv h2⟩
    · cases h
  · cases h
theorem zi_bald_inv {pc pc' : Nat} {L L' : zi_L} {st st' : List Value} {S S' : zi_S} (h : zi_bald pc L st S = some (.inl (pc', L', st', S'))) : ∃ (i : Int32) (a : Nat) (r : List Value) (t n : Nat) (f : Nat → Int32), st = .int i :: .ref a :: r ∧ S.1 a = .inl (t, n, .inl f) ∧ ((t = 2 ∧ a < S.2.1) ∨ (t = 4 ∧ 1000000 ≤ a)) ∧ vp_in i n ∧ pc' = pc + 1 ∧ L' = L ∧ st' = .int (f i.toNatClampNeg) :: r ∧ S' = S := by
  unfold zi_bald at h
  split at h
  · rename_i i a r
    split at h
    · rename_i t' n f hc
      obtain ⟨h1, h2⟩ := zi_cond_inv h
      simp only [Bool.or_eq_true, Bool.and_eq_true] at h1
      exact ⟨i, a, r, t', n, f, rfl, hc, h1.1.imp (fun h => ⟨zi_beq h.1, zi_blt h.2⟩) (fun h => ⟨zi_beq h.1, Nat.le_of_ble_eq_true h.2⟩), zi_in_vp h1.2, zi_nx_inv h2⟩
    · cases h
  · cases h
/-- the texts' cells -/
theorem zi_ro_2 (m : Nat) : zi_ro (1000000 + m) = zi_ro2 1000000 m := by
  unfold zi_ro
  exact congrArg (zi_ro2 1000000) (Nat.add_sub_cancel_left _ _)
theorem zi_ro2_obj {b m ci : Nat} {fs : List Value} (h : zi_ro2 b m = .inr (ci, fs)) : ∃ j, j < 6 ∧ m = 2 * j ∧ ci = 15 ∧ fs = [.ref (b + 2 * j + 1), .int 0] := by
  unfold zi_ro2 at h
  split at h
  · rename_i l hl
    have hj : m / 2 < 6 := (List.getElem?_eq_some_iff.mp hl).1
    cases hb : Nat.beq (m % 2) 0 with
    | false => rw [hb] at h; cases h
    | true =>
      rw [hb] at h
      have e := zi_beq hb
      obtain ⟨e1, e2⟩ := Prod.mk.inj (Sum.inr.inj h)
      have e3 : m = 2 * (m / 2) := by omega
      exact ⟨m / 2, hj, e3, e1.symm, by rw [← e2, ← e3]⟩
  · cases h
theorem zi_ro2_arr {b m n : Nat} {f : Nat → Int32} (h : zi_ro2 b m = .inl (4, n, .inl f)) : ∃ j, j < 6 ∧ m = 2 * j + 1 ∧ n = zi_len.getD j 0 ∧ f = fun i => (zi_txt.getD j []).getD i 0 := by
  unfold zi_ro2 at h
  split at h
  · rename_i l hl
    have hj : m / 2 < 6 := (List.getElem?_eq_some_iff.mp hl).1
    have hl2 : zi_txt.getD (m / 2) [] = l := by simp [List.getD, hl]
    cases hb : Nat.beq (m % 2) 0 with
    | true => rw [hb] at h; cases h
    | false =>
      rw [hb] at h
      have e : ¬ m % 2 = 0 := fun e => by rw [e] at hb; cases hb
      obtain ⟨e1, e2⟩ := Prod.mk.inj (Sum.inl.inj h)
      obtain ⟨e3, e4⟩ := Prod.mk.inj e2
      have e5 := Sum.inl.inj e4
      have this : ∀ j, j < 6 → zi_len.getD j 0 = (zi_txt.getD j []).length := by decide
      exact ⟨m / 2, hj, by omega, by rw [this _ hj, hl2]; exact e3.symm, by rw [hl2]; exact e5.symm⟩
  · obtain ⟨e1, e2⟩ := Prod.mk.inj (Sum.inl.inj h)
    cases e1
theorem zi_ro_obj {k ci : Nat} {fs : List Value} (hk : 1000000 ≤ k) (h : zi_ro k = .inr (ci, fs)) : ∃ j, j < 6 ∧ k = 1000000 + 2 * j ∧ ci = 15 ∧ fs = [.ref (1000001 + 2 * j), .int 0] := by
  obtain ⟨m, rfl⟩ : ∃ m, k = 1000000 + m := ⟨k - 1000000, by omega⟩
  rw [zi_ro_2] at h
  obtain ⟨j, h1, h2, h3, h4⟩ := zi_ro2_obj h
  refine ⟨j, h1, by omega, h3, ?_⟩
  rw [h4]
  have e : 1000000 + 2 * j + 1 = 1000001 + 2 * j := by omega
  rw [e]
theorem zi_ro_arr {k t n : Nat} {f : Nat → Int32} (hk : 1000000 ≤ k) (ht : t = 4) (h : zi_ro k = .inl (t, n, .inl f)) : ∃ j, j < 6 ∧ k = 1000001 + 2 * j ∧ n = zi_len.getD j 0 ∧ f = fun i => (zi_txt.getD j []).getD i 0 := by
  subst ht
  obtain ⟨m, rfl⟩ : ∃ m, k = 1000000 + m := ⟨k - 1000000, by omega⟩
  rw [zi_ro_2] at h
  obtain ⟨j, h1, h2, h3, h4⟩ := zi_ro2_arr h
  exact ⟨j, h1, by omega, h3, h4⟩
theorem zi_lald_inv {pc pc' : Nat} {L L' : zi_L} {st st' : List Value} {S S' : zi_S} (h : zi_lald pc L st S = some (.inl (pc', L', st', S'))) : ∃ i a r n f, st = .int i :: .ref a :: r ∧ S.1 a = .inl (1, n, .inr (.inl f)) ∧ a < S.2.1 ∧ vp_in i n ∧ pc' = pc + 1 ∧ L' = L ∧ st' = .long (f i.toNatClampNeg) :: r ∧ S' = S := by
  unfold zi_lald at h
  split at h
  · rename_i i a r
    split at h
    · rename_i t' n f hc
      obtain ⟨h1, h2⟩ := zi_cond_inv h
      simp only [Bool.and_eq_true] at h1
      have hx := zi_beq h1.1
      subst hx
      exact ⟨i, a, r, n, f, rfl, hc, zi_blt h1.2.1, zi_in_vp h1.2.2, zi_nx_inv h2⟩
    · cases h
  · cases h
theorem zi_aald_inv {pc pc' : Nat} {L L' : zi_L} {st st' : List Value} {S S' : zi_S} (h : zi_aald pc L st S = some (.inl (pc', L', st', S'))) : ∃ i a r n f, st = .int i :: .ref a :: r ∧ S.1 a = .inl (3, n, .inr (.inr (.inr (.inr f)))) ∧ a < S.2.1 ∧ vp_in i n ∧ pc' = pc + 1 ∧ L' = L ∧ st' = va_rf (f i.toNatClampNeg) :: r ∧ S' = S := by
  unfold zi_aald at h
  split at h
  · rename_i i a r
    split at h
    · rename_i t' n f hc
      obtain ⟨h1, h2⟩ := zi_cond_inv h
      simp only [Bool.and_eq_true] at h1
      have hx := zi_beq h1.1
      subst hx
      exact ⟨i, a, r, n, f, rfl, hc, zi_blt h1.2.1, zi_in_vp h1.2.2, zi_nx_inv h2⟩
    · cases h
  · cases h
theorem zi_ast_inv {pc pc' t : Nat} {g : Int32 → Int32} {L L' : zi_L} {st st' : List Value} {S S' : zi_S} (h : zi_ast pc L st S t g = some (.inl (pc', L', st', S'))) : ∃ v i a n f, st = .int v :: .int i :: .ref a :: st' ∧ S.1 a = .inl (t, n, .inl f) ∧ a < S.2.1 ∧ vp_in i n ∧ pc' = pc + 1 ∧ L' = L ∧ S' = (zi_put S.1 a (.inl (t, n, .inl (upd f i.toNatClampNeg (g v)))), S.2) := by
  unfold zi_ast at h
  split at h
  · rename_i v i a r
    split at h
    · rename_i t' n f hc
      obtain ⟨h1, h2⟩ := zi_cond_inv h
      simp only [Bool.and_eq_true] at h1
      have hx := zi_beq h1.1
      subst hx
      obtain ⟨rfl, rfl, rfl, rfl⟩ := zi_nx_inv h2
      exact ⟨v, i, a, n, f, rfl, hc, zi_blt h1.2.1, zi_in_vp h1.2.2, rfl, rfl, rfl⟩
    · cases h
  · cases h
theorem zi_last_inv {pc pc' : Nat} {L L' : zi_L} {st st' : List Value} {S S' : zi_S} (h : zi_last pc L st S = some (.inl (pc', L', st', S'))) : ∃ v i a n f, st = .long v :: .int i :: .ref a :: st' ∧ S.1 a = .inl (1, n, .inr (.inl f)) ∧ a < S.2.1 ∧ vp_in i n ∧ pc' = pc + 1 ∧ L' = L ∧ S' = (zi_put S.1 a (.inl (1, n, .inr (.inl (vp_updL f i.toNatClampNeg v)))), S.2) := by
  unfold zi_last at h
  split at h
  · rename_i v i a r
    split at h
    · rename_i t' n f hc
      obtain ⟨h1, h2⟩ := zi_cond_inv h
      simp only [Bool.and_eq_true] at h1
      have hx := zi_beq h1.1
      subst hx
      obtain ⟨rfl, rfl, rfl, rfl⟩ := zi_nx_inv h2
      exact ⟨v, i, a, n, f, rfl, hc, zi_blt h1.2.1, zi_in_vp h1.2.2, rfl, rfl, rfl⟩
    · cases h
  · cases h
theorem zi_aast_inv {pc pc' : Nat} {L L' : zi_L} {st st' : List Value} {S S' : zi_S} (h : zi_aast pc L st S = some (.inl (pc', L', st', S'))) : ∃ v i a n f fs, st = .ref v :: .int i :: .ref a :: st' ∧ S.1 a = .inl (3, n, .inr (.inr (.inr (.inr f)))) ∧ S.1 v = .inr (3, fs) ∧ a < S.2.1 ∧ v < S.2.1 ∧ vp_in i n ∧ pc' = pc + 1 ∧ L' = L ∧ S' = (zi_put S.1 a (.inl (3, n, .inr (.inr (.inr (.inr (va_up f i.toNatClampNeg (some v))))))), S.2) := by
  unfold zi_aast at h
  split at h
  · rename_i v i a r
    split at h
    · rename_i t' n f ci fs hc hc2
      obtain ⟨h1, h2⟩ := zi_cond_inv h
      simp only [Bool.and_eq_true] at h1
      have hx := zi_beq h1.1
      subst hx
      have hy := zi_beq h1.2.2.2.1
      subst hy
      obtain ⟨rfl, rfl, rfl, rfl⟩ := zi_nx_inv h2
      exact ⟨v, i, a, n, f, fs, rfl, hc, hc2, zi_blt h1.2.1, zi_blt h1.2.2.1, zi_in_vp h1.2.2.2.2, rfl, rfl, rfl⟩
    · cases h
  · cases h
theorem zi_alen_inv {pc pc' : Nat} {L L' : zi_L} {st st' : List Value} {S S' : zi_S} (h : zi_alen pc L st S = some (.inl (pc', L', st', S'))) : ∃ (a : Nat) (r : List Value) (t : Nat) (q : vp_A), st = .ref a :: r ∧ S.1 a = .inl (t, q) ∧ ((t < 4 ∧ a < S.2.1) ∨ (t = 4 ∧ 1000000 ≤ a)) ∧ pc' = pc + 1 ∧ L' = L ∧ st' = .int (Int32.ofNat q.1) :: r ∧ S' = S := by
  unfold zi_alen at h
  split at h
  · rename_i a r
    split at h
    · rename_i t q hc
      obtain ⟨h1, h2⟩ := zi_cond_inv h
      simp only [Bool.or_eq_true, Bool.and_eq_true] at h1
      exact ⟨a, r, t, q, rfl, hc, h1.imp (fun h => ⟨zi_blt h.1, zi_blt h.2⟩) (fun h => ⟨zi_beq h.1, Nat.le_of_ble_eq_true h.2⟩), zi_nx_inv h2⟩
    · cases h
  · cases h
theorem zi_cpy_inv {pc pc' : Nat} {L L' : zi_L} {st st' : List Value} {S S' : zi_S} (h : zi_cpy pc L st S = some (.inl (pc', L', st', S'))) : ∃ n dp a sp b n1 g nz f, st = .int n :: .int dp :: .ref a :: .int sp :: .ref b :: st' ∧ S.1 a = .inl (0, n1, .inl g) ∧ S.1 b = .inl (0, nz, .inl f) ∧ a < S.2.1 ∧ b < S.2.1 ∧ ¬ sp < 0 ∧ ¬ dp < 0 ∧ ¬ n < 0 ∧ sp.toNatClampNeg + n.toNatClampNeg ≤ nz ∧ dp.toNatClampNeg + n.toNatClampNeg ≤ n1 ∧ zi_sm st' = true ∧ pc' = pc + 3 ∧ L' = L ∧ S' = (zi_put S.1 a (.inl (0, n1, .inl (va_cpy f g sp.toNatClampNeg dp.toNatClampNeg n.toNatClampNeg))), S.2) := by
  unfold zi_cpy at h
  split at h
  · rename_i n dp a sp b r
    split at h
    · rename_i t1 n1 g t0 nz f hc hc2
      obtain ⟨h1, h2⟩ := zi_cond_inv h
      simp only [Bool.and_eq_true] at h1
      obtain ⟨q1, q2, q3, q4, q5, q6, q7, q8, q9, q10⟩ := h1
      have e1 := zi_beq q1
      have e2 := zi_beq q2
      subst e1
      subst e2
      obtain ⟨rfl, rfl, rfl, rfl⟩ := zi_nx_inv h2
      exact ⟨n, dp, a, sp, b, n1, g, nz, f, rfl, hc, hc2, zi_blt q3, zi_blt q4, fun q => zi_in_vp q5 (Or.inl q), fun q => zi_in_vp q6 (Or.inl q), fun q => zi_in_vp q7 (Or.inl q), Nat.le_of_ble_eq_true q8, Nat.le_of_ble_eq_true q9, q10, rfl, rfl, rfl⟩
    · cases h
  · cases h
theorem zi_alloc_inv {n pc pc' w : Nat} {L L' : zi_L} {r st' : List Value} {S S' : zi_S} {c : zi_C} (h : zi_alloc n pc L r S c w = some (.inl (pc', L', st', S'))) : S.2.1 < 1000000 ∧ pc' = pc + n ∧ L' = L ∧ st' = .ref S.2.1 :: r ∧ S' = (zi_put S.1 S.2.1 c, S.2.1 + 1, S.2.2.1 + 1, S.2.2.2 + w) := by
  obtain ⟨h1, h2⟩ := zi_cond_inv h
  exact ⟨zi_blt h1, zi_nx_inv h2⟩
theorem zi_mka_inv {n pc pc' t : Nat} {L L' : zi_L} {st st' : List Value} {S S' : zi_S} (h : zi_mka n pc L st S t = some (.inl (pc', L', st', S'))) : ∃ k r, st = .int k :: r ∧ vp_in k 100000 ∧ S.2.1 < 1000000 ∧ pc' = pc + n ∧ L' = L ∧ st' = .ref S.2.1 :: r ∧ S' = (zi_put S.1 S.2.1 (.inl (t, zi_arr t k.toNatClampNeg)), S.2.1 + 1, S.2.2.1 + 1, S.2.2.2 + k.toNatClampNeg) := by
  unfold zi_mka at h
  split at h
  · rename_i k r
    obtain ⟨h1, h2⟩ := zi_cond_inv h
    exact ⟨k, r, rfl, zi_in_vp h1, zi_alloc_inv h2⟩
  · cases h
theorem zi_m2_inv {pc pc' : Nat} {L L' : zi_L} {st st' : List Value} {S S' : zi_S} {f : Int32 → Int32 → Int32} (h : zi_m2 pc L st S f = some (.inl (pc', L', st', S'))) : ∃ x y r, st = .int y :: .int x :: r ∧ zi_sm r = true ∧ pc' = pc + 3 ∧ L' = L ∧ st' = .int (f x y) :: r ∧ S' = S := by
  unfold zi_m2 at h
  split at h
  · obtain ⟨h1, h2⟩ := zi_cond_inv h
    exact ⟨_, _, _, rfl, h1, zi_nx_inv h2⟩
  · cases h
theorem zi_sm_map {ad : Nat → Nat} {r : List Value} (h : zi_sm r = true) : ((r.map (zi_v ad)).map fun v => v.category).sum ≤ 8 := by
  have h1 : (r.map fun v => v.category).sum ≤ 8 := Nat.le_of_ble_eq_true h
  rw [List.map_map]
  have e : ((fun v : Value => v.category) ∘ zi_v ad) = fun v => v.category := funext fun v => zi_v_cat ad v
  rw [e]
  exact h1
/-- a cell is written anew: the picture goes on -/
theorem zi_Hp.put {D : va_G} {cy : Nat → ClassId} {A : Nat → Prop} {ad : Nat → Nat} {H0 H H1 : Heap} {locs locs1 : List Loc} {S : zi_S} {k : Nat} {c : zi_C} (h : zi_Hp D cy A ad H0 H locs S) (hk : k < S.2.1) (hc : zi_okC S.2.1 c)
    (hP : va_P D vwCl ((zi_w cy ad S.1 S.2.1).set k (ad k, zi_e cy ad c)) H1) (hD : va_D A ((zi_w cy ad S.1 S.2.1).set k (ad k, zi_e cy ad c))) (hS : va_S A H0 H1 locs1) : zi_Hp D cy A ad H0 H1 locs1 (zi_put S.1 k c, S.2) := by
  rw [zi_w_set hk] at hP hD
  refine ⟨hP, hD, hS, fun j hj => ?_, h.2.2.2.2.1, fun j hj => ?_⟩
  rotate_left
  · have hk1 : k < S.2.1 := hk
    have hn1 := h.2.2.2.2.1
    have e : j ≠ k := by omega
    show zi_put S.1 k c j = zi_ro j
    simp only [zi_put, va_up, if_neg e]
    exact h.2.2.2.2.2 j hj
  by_cases e : j = k
  · subst e
    simp only [zi_put, va_up, if_true]
    exact hc
  · simp only [zi_put, va_up, if_neg e]
    exact h.2.2.2.1 j hj
theorem zi_fv_nf {ty : FieldType} {v : Value} (h : zi_fv ty v = true) (ad : Nat → Nat) : narrow ty (zi_v ad v) = zi_v ad v ∧ fits ty (zi_v ad v) = true := by
  cases ty <;> cases v <;> first | exact ⟨rfl, rfl⟩ | cases h
theorem zi_set_map {ad : Nat → Nat} {fs : List Value} {y : Nat} {v : Value} : (fs.map (zi_v ad)).set y (zi_v ad v) = (fs.set y v).map (zi_v ad) := by
  rw [List.map_set]
theorem zi_okC_set {n ci y : Nat} {fs : List Value} {v : Value} (h : zi_okC n (.inr (ci, fs))) (hv : zi_ok n v) : zi_okC n (.inr (ci, fs.set y v)) := by
  intro w hw
  rcases List.mem_or_eq_of_mem_set hw with h1 | rfl
  · exact h w h1
  · exact hv
end
section
/-! ===== the steps that touch the heap are the machine's ===== -/
/-- a text by a wide index: as Stand.ldcString of the library, for ldc_w -/
theorem zi_ldcwS {p : Program} {l : Launch} {e : Env} {R : Room} {s : State} {m : MethodId} {args : Array Value} {below : List Frame} {meth : Method} {c : Code} {H : Heap} {locs : List Loc} {cells slots : Nat} {Q : State → Prop} {cc : ByteArray} {pc : Nat} {ls : Array Slot} {rest : List Value} (hexec : p.tables.exec = Jvm.exec) (hb : c.code = cc) {own tx : String} {index q : Nat} (hown : s.vm.findClass own = some m.cls) (hZ : vk_R own index tx q s) (hdg : decode cc pc = .ok (.ldc_w index, 3))
    (k : W p l e R s m args below meth c H locs cells slots Q (F0 m (pc + 3) ls (.ref q :: rest))) : W p l e R s m args below meth c H locs cells slots Q (F0 m pc ls rest) := by
  intro T hT X
  obtain ⟨t, a1, b1⟩ := k T hT X
  refine ⟨t, ?_, b1⟩
  obtain ⟨k, cf, i, a', hk, hcf, hcp, -, hr, hev'⟩ := Cond.stringRef_spec hown hZ.1
  cases hZ.2.symm.trans hev'
  obtain ⟨k', hk', he⟩ := X.warmed.alike.2.2 _ _ hk
  have hr' : k'.resolved[index]? = some (some (.string q)) := by
    rcases X.warmed.entry hk hk' index with h | ⟨h, -⟩
    · rw [h]; exact hr
    · rw [hr] at h; cases h
  jvm_step X.here [hexec, hb, hdg, ldc_w.wp_string (e := e) (s := T) (f := F0 m pc ls rest) X.here.top hk' (by rw [he]; exact hcf) hcp hr']
  exact a1
section ZV
variable {p : Program} {l : Launch} {e : Env} {R : Room} {s : State} {m : MethodId} {args : Array Value} {below : List Frame} {meth : Method} {c : Code} {Q : State → Prop} {D : va_G} {cy : Nat → ClassId} {A : Nat → Prop} {cc : ByteArray} {nL n0 k0 s0 o rt n i x y : Nat} {nm : String} {ad0 : Nat → Nat} {pc pc' : Nat} {L L' : zi_L} {st st' : List Value} {S S' : zi_S}
theorem zi_q_getf {ix : Nat} (X : zi_X p s m args meth c R D cy A cc nL o nm rt ad0) (hd : decode cc pc = .ok (.getfield ix, 3)) (hg : zi_gG o ix x y) (hex : zi_getf pc L st S x y = some (.inl (pc', L', st', S'))) (kk : zi_Go p l e R s m args below meth c Q D cy A nL n0 ad0 k0 s0 pc' L' st' S') : zi_Go p l e R s m args below meth c Q D cy A nL n0 ad0 k0 s0 pc L st S := by
  obtain ⟨a, r, fs, v, rfl, hc, ha, hv, rfl, rfl, rfl, rfl⟩ := zi_getf_inv hex
  obtain ⟨hx, hb, hml, hown, hts, hN, hK, hA, hcls, hnm, hret, hlk, hRf, hRl, hSF⟩ := X
  intro ad ls H locs hag hH hL hst
  by_cases ha1 : 1000000 ≤ a
  · rw [hH.2.2.2.2.2 a ha1] at hc
    obtain ⟨j, hj, rfl, rfl, rfl⟩ := zi_ro_obj ha1 hc
    have hSF := hSF.ag hag
    rcases hg with ⟨q, hq, -⟩ | ⟨-, ⟨rfl, hl⟩ | ⟨rfl, hl⟩⟩
    · simp [vwCl] at hq
    · have hv : v = .ref (1000001 + 2 * j) := (Option.some.inj hv).symm
      subst hv
      exact vk_getf hx hb (hSF.1.1 j hj).2.2.1 hH.2.2.1 hown (hts _ hl) (fun _ h9 => h9) hd (kk ad ls H locs hag hH hL (zi_all_cons (Or.inr (show 1000000 ≤ 1000001 + 2 * j by omega)) (zi_all_tail hst)))
    · have hv : v = .int 0 := (Option.some.inj hv).symm
      subst hv
      exact vk_getf hx hb (hSF.1.1 j hj).2.1 hH.2.2.1 hown (hts _ hl) (fun _ h9 => h9) hd (kk ad ls H locs hag hH hL (zi_all_cons trivial (zi_all_tail hst)))
  · have ha : a < S'.2.1 := by omega
    have he : (zi_w cy ad S'.1 S'.2.1)[a]? = some (ad a, .inr (x, fs.map (zi_v ad))) := by rw [zi_w_get ha, hc]; rfl
    have hv' : (fs.map (zi_v ad))[y]? = some (zi_v ad v) := by rw [List.getElem?_map, hv]; rfl
    have hokC := hH.2.2.2.1 a ha
    rw [hc] at hokC
    have k := kk ad ls H locs hag hH hL (zi_all_cons (hokC v (List.mem_of_getElem? hv)) (zi_all_tail hst))
    obtain ⟨q, hq, hy, hlink⟩ : zi_gF o ix x y := by
      rcases hg with hg | ⟨rfl, -⟩
      · exact hg
      · obtain ⟨q, hq, -⟩ := hH.1 a _ he
        simp [vwCl] at hq
    rcases hlink with hlink | ⟨host, hlink⟩
    · exact va_get (D := D) (cl := vwCl) (ci := x) (C := q.1) (T := q.2.1) (N := q.2.2) hx hb hts (hcls x q hq).1 hown hK hH.1 a he hq y hy (hts _ hlink) (fun _ h9 => h9) hv' hd k
    · exact va_getN (D := D) (cl := vwCl) (ci := x) (C := q.1) (T := q.2.1) (N := q.2.2) (host := host) hx hb hts (hcls x q hq).1 hown hK hH.1 a he hq y hy (va_Nw.use rfl (hN _ hlink)) (fun _ h9 => h9) hv' hd k
theorem zi_q_putf {ix : Nat} (X : zi_X p s m args meth c R D cy A cc nL o nm rt ad0) (hd : decode cc pc = .ok (.putfield ix, 3)) (hg : zi_gP nm o ix x y) (hex : zi_putf pc L st S x y = some (.inl (pc', L', st', S'))) (kk : zi_Go p l e R s m args below meth c Q D cy A nL n0 ad0 k0 s0 pc' L' st' S') : zi_Go p l e R s m args below meth c Q D cy A nL n0 ad0 k0 s0 pc L st S := by
  obtain ⟨a, fs, v, rfl, hc, ha, hyl, hfv, rfl, rfl, rfl⟩ := zi_putf_inv hex
  obtain ⟨hx, hb, hml, hown, hts, hN, hK, hA, hcls, hnm, -⟩ := X
  intro ad ls H locs hag hH hL hst
  obtain ⟨q, hq, hy, hlink⟩ := hg
  have he : (zi_w cy ad S.1 S.2.1)[a]? = some (ad a, .inr (x, fs.map (zi_v ad))) := by rw [zi_w_get ha, hc]; rfl
  have hokC := hH.2.2.2.1 a ha
  rw [hc] at hokC
  have hnf := zi_fv_nf hfv ad
  have hty := (hcls x q hq).2.1 y hy
  have go : ∀ (H1 : Heap) (locs1 : List Loc), va_P D vwCl ((zi_w cy ad S.1 S.2.1).set a (ad a, .inr (x, (fs.map (zi_v ad)).set y (zi_v ad v)))) H1 → va_D A ((zi_w cy ad S.1 S.2.1).set a (ad a, .inr (x, (fs.map (zi_v ad)).set y (zi_v ad v)))) → va_S A s.heap H1 locs1 → W p l e R s m args below meth c H1 locs1 (S.2.2.1 - k0) (S.2.2.2 - s0) Q (F0 m (pc + 3) ls (st'.map (zi_v ad))) := by
    intro H1 locs1 hP hD hS
    rw [zi_set_map] at hP hD
    exact kk ad ls H1 locs1 hag (zi_Hp.put (c := .inr (x, fs.set y v)) hH ha (zi_okC_set hokC (zi_all_head hst)) hP hD hS) hL (zi_all_tail (zi_all_tail hst))
  rcases hlink with ⟨hf, hin, hdecl, hlink⟩ | ⟨hf, hlink | ⟨host, hlink⟩⟩
  · exact va_putF (D := D) (cl := vwCl) (ci := x) (C := q.1) (T := q.2.1) (N := q.2.2) hx hb hts (hcls x q hq).1 (zi_ft x) (hcls x q hq).2.1 (hcls x q hq).2.2 hown hK hH.1 hH.2.1 hH.2.2.1 a he hq y hy (hts _ hlink) (fun _ h9 => h9) hf (hnm.trans hin) hdecl hty hnf.1 hnf.2 (by rw [List.length_map]; exact hyl) hd go
  · exact va_put (D := D) (cl := vwCl) (ci := x) (C := q.1) (T := q.2.1) (N := q.2.2) hx hb hts (hcls x q hq).1 (zi_ft x) (hcls x q hq).2.1 (hcls x q hq).2.2 hown hK hH.1 hH.2.1 hH.2.2.1 a he hq y hy (hts _ hlink) (fun _ h9 => h9) hf hty hnf.1 hnf.2 (by rw [List.length_map]; exact hyl) hd go
  · exact va_putN (D := D) (cl := vwCl) (ci := x) (C := q.1) (T := q.2.1) (N := q.2.2) (host := host) hx hb hts (hcls x q hq).1 (zi_ft x) (hcls x q hq).2.1 (hcls x q hq).2.2 hown hK hH.1 hH.2.1 hH.2.2.1 a he hq y hy (va_Nw.use rfl (hN _ hlink)) (fun _ h9 => h9) hf hty hnf.1 hnf.2 (by rw [List.length_map]; exact hyl) hd go
theorem zi_q_iald (X : zi_X p s m args meth c R D cy A cc nL o nm rt ad0) (hd : decode cc pc = .ok (.iaload, 1)) (hex : zi_ald pc L st S 0 = some (.inl (pc', L', st', S'))) (kk : zi_Go p l e R s m args below meth c Q D cy A nL n0 ad0 k0 s0 pc' L' st' S') : zi_Go p l e R s m args below meth c Q D cy A nL n0 ad0 k0 s0 pc L st S := by
  obtain ⟨i, a, r, n, f, rfl, hc, ha, hin, rfl, rfl, rfl, rfl⟩ := zi_ald_inv hex
  obtain ⟨hx, hb, hml, hown, hts, hN, hK, hA, hcls, hnm, -⟩ := X
  intro ad ls H locs hag hH hL hst
  have he : (zi_w cy ad S'.1 S'.2.1)[a]? = some (ad a, .inl (cy 0, n, .inl f)) := by rw [zi_w_get ha, hc]; rfl
  exact va_iald hx hb hK hH.1 a 0 he rfl hin hd (kk ad ls H locs hag hH hL (zi_all_cons trivial (zi_all_tail (zi_all_tail hst))))
theorem zi_q_zald (X : zi_X p s m args meth c R D cy A cc nL o nm rt ad0) (hd : decode cc pc = .ok (.baload, 1)) (hex : zi_bald pc L st S = some (.inl (pc', L', st', S'))) (kk : zi_Go p l e R s m args below meth c Q D cy A nL n0 ad0 k0 s0 pc' L' st' S') : zi_Go p l e R s m args below meth c Q D cy A nL n0 ad0 k0 s0 pc L st S := by
  obtain ⟨i, a, r, t, n, f, rfl, hc, ht, hin, rfl, rfl, rfl, rfl⟩ := zi_bald_inv hex
  obtain ⟨hx, hb, hml, hown, hts, hN, hK, hA, hcls, hnm, hret, hlk, hRf, hRl, hSF⟩ := X
  intro ad ls H locs hag hH hL hst
  rcases ht with ⟨rfl, ha⟩ | ⟨ht, ha⟩
  · have he : (zi_w cy ad S'.1 S'.2.1)[a]? = some (ad a, .inl (cy 2, n, .inl f)) := by rw [zi_w_get ha, hc]; rfl
    exact va_zald hx hb hK hH.1 a 2 he rfl hin hd (kk ad ls H locs hag hH hL (zi_all_cons trivial (zi_all_tail (zi_all_tail hst))))
  · rw [hH.2.2.2.2.2 a ha] at hc
    obtain ⟨j, hj, rfl, rfl, rfl⟩ := zi_ro_arr ha ht hc
    have hSF := hSF.ag hag
    exact va_tb hx hb (hSF.1.1 j hj).2.2.2 hH.2.2.1 hin rfl hd (kk ad ls H locs hag hH hL (zi_all_cons trivial (zi_all_tail (zi_all_tail hst))))
theorem zi_q_lald (X : zi_X p s m args meth c R D cy A cc nL o nm rt ad0) (hd : decode cc pc = .ok (.laload, 1)) (hex : zi_lald pc L st S = some (.inl (pc', L', st', S'))) (kk : zi_Go p l e R s m args below meth c Q D cy A nL n0 ad0 k0 s0 pc' L' st' S') : zi_Go p l e R s m args below meth c Q D cy A nL n0 ad0 k0 s0 pc L st S := by
  obtain ⟨i, a, r, n, f, rfl, hc, ha, hin, rfl, rfl, rfl, rfl⟩ := zi_lald_inv hex
  obtain ⟨hx, hb, hml, hown, hts, hN, hK, hA, hcls, hnm, -⟩ := X
  intro ad ls H locs hag hH hL hst
  have he : (zi_w cy ad S'.1 S'.2.1)[a]? = some (ad a, .inl (cy 1, n, .inr (.inl f))) := by rw [zi_w_get ha, hc]; rfl
  exact va_lald hx hb hK hH.1 a 1 he rfl hin hd (kk ad ls H locs hag hH hL (zi_all_cons trivial (zi_all_tail (zi_all_tail hst))))
theorem zi_rf_ok {n : Nat} {ad : Nat → Nat} {q : Option Nat} (h : ∀ k, q = some k → k < n ∨ 1000000 ≤ k) : zi_ok n (va_rf q) := by
  cases q with
  | none => trivial
  | some k => exact h k rfl
theorem zi_rf_v (ad : Nat → Nat) (q : Option Nat) : zi_v ad (va_rf q) = va_rf (q.map ad) := by cases q <;> rfl
theorem zi_q_aald (X : zi_X p s m args meth c R D cy A cc nL o nm rt ad0) (hd : decode cc pc = .ok (.aaload, 1)) (hex : zi_aald pc L st S = some (.inl (pc', L', st', S'))) (kk : zi_Go p l e R s m args below meth c Q D cy A nL n0 ad0 k0 s0 pc' L' st' S') : zi_Go p l e R s m args below meth c Q D cy A nL n0 ad0 k0 s0 pc L st S := by
  obtain ⟨i, a, r, n, f, rfl, hc, ha, hin, rfl, rfl, rfl, rfl⟩ := zi_aald_inv hex
  obtain ⟨hx, hb, hml, hown, hts, hN, hK, hA, hcls, hnm, -⟩ := X
  intro ad ls H locs hag hH hL hst
  have he : (zi_w cy ad S'.1 S'.2.1)[a]? = some (ad a, .inl (cy 3, n, .inr (.inr (.inr (.inr fun i => (f i).map ad))))) := by rw [zi_w_get ha, hc]; rfl
  have hokC := hH.2.2.2.1 a ha
  rw [hc] at hokC
  have k := kk ad ls H locs hag hH hL (zi_all_cons (zi_rf_ok (ad := ad) (fun k hk => hokC _ k hk)) (zi_all_tail (zi_all_tail hst)))
  rw [List.map_cons, zi_rf_v] at k
  exact va_aldq hx hb hK hH.1 a 3 he rfl hin hd k
theorem zi_q_iast (X : zi_X p s m args meth c R D cy A cc nL o nm rt ad0) (hd : decode cc pc = .ok (.iastore, 1)) (hex : zi_ast pc L st S 0 (fun v => v) = some (.inl (pc', L', st', S'))) (kk : zi_Go p l e R s m args below meth c Q D cy A nL n0 ad0 k0 s0 pc' L' st' S') : zi_Go p l e R s m args below meth c Q D cy A nL n0 ad0 k0 s0 pc L st S := by
  obtain ⟨v, i, a, n, f, rfl, hc, ha, hin, rfl, rfl, rfl⟩ := zi_ast_inv hex
  obtain ⟨hx, hb, hml, hown, hts, hN, hK, hA, hcls, hnm, -⟩ := X
  intro ad ls H locs hag hH hL hst
  have he : (zi_w cy ad S.1 S.2.1)[a]? = some (ad a, .inl (cy 0, n, .inl f)) := by rw [zi_w_get ha, hc]; rfl
  refine va_iast hx hb hK hH.1 hH.2.1 hH.2.2.1 a 0 he rfl hin hd fun H1 locs1 hP hD hS => ?_
  exact kk ad ls H1 locs1 hag (zi_Hp.put (c := .inl (0, n, .inl (upd f i.toNatClampNeg v))) hH ha trivial hP hD hS) hL (zi_all_tail (zi_all_tail (zi_all_tail hst)))
theorem zi_q_zast (X : zi_X p s m args meth c R D cy A cc nL o nm rt ad0) (hd : decode cc pc = .ok (.bastore, 1)) (hex : zi_ast pc L st S 2 (fun v => vp_nar .boolean v) = some (.inl (pc', L', st', S'))) (kk : zi_Go p l e R s m args below meth c Q D cy A nL n0 ad0 k0 s0 pc' L' st' S') : zi_Go p l e R s m args below meth c Q D cy A nL n0 ad0 k0 s0 pc L st S := by
  obtain ⟨v, i, a, n, f, rfl, hc, ha, hin, rfl, rfl, rfl⟩ := zi_ast_inv hex
  obtain ⟨hx, hb, hml, hown, hts, hN, hK, hA, hcls, hnm, -⟩ := X
  intro ad ls H locs hag hH hL hst
  have he : (zi_w cy ad S.1 S.2.1)[a]? = some (ad a, .inl (cy 2, n, .inl f)) := by rw [zi_w_get ha, hc]; rfl
  refine va_zast hx hb hK hH.1 hH.2.1 hH.2.2.1 a 2 he rfl hin hd fun H1 locs1 hP hD hS => ?_
  exact kk ad ls H1 locs1 hag (zi_Hp.put (c := .inl (2, n, .inl (upd f i.toNatClampNeg (vp_nar .boolean v)))) hH ha trivial hP hD hS) hL (zi_all_tail (zi_all_tail (zi_all_tail hst)))
theorem zi_q_last (X : zi_X p s m args meth c R D cy A cc nL o nm rt ad0) (hd : decode cc pc = .ok (.lastore, 1)) (hex : zi_last pc L st S = some (.inl (pc', L', st', S'))) (kk : zi_Go p l e R s m args below meth c Q D cy A nL n0 ad0 k0 s0 pc' L' st' S') : zi_Go p l e R s m args below meth c Q D cy A nL n0 ad0 k0 s0 pc L st S := by
  obtain ⟨v, i, a, n, f, rfl, hc, ha, hin, rfl, rfl, rfl⟩ := zi_last_inv hex
  obtain ⟨hx, hb, hml, hown, hts, hN, hK, hA, hcls, hnm, -⟩ := X
  intro ad ls H locs hag hH hL hst
  have he : (zi_w cy ad S.1 S.2.1)[a]? = some (ad a, .inl (cy 1, n, .inr (.inl f))) := by rw [zi_w_get ha, hc]; rfl
  refine va_last hx hb hK hH.1 hH.2.1 hH.2.2.1 a 1 he rfl hin hd fun H1 locs1 hP hD hS => ?_
  exact kk ad ls H1 locs1 hag (zi_Hp.put (c := .inl (1, n, .inr (.inl (vp_updL f i.toNatClampNeg v)))) hH ha trivial hP hD hS) hL (zi_all_tail (zi_all_tail (zi_all_tail hst)))
theorem zi_up_map (ad : Nat → Nat) (f : Nat → Option Nat) (i v : Nat) : (fun j => (va_up f i (some v) j).map ad) = va_up (fun j => (f j).map ad) i (some (ad v)) := by
  funext j
  simp only [va_up]
  split <;> rfl
theorem zi_q_aast (X : zi_X p s m args meth c R D cy A cc nL o nm rt ad0) (hd : decode cc pc = .ok (.aastore, 1)) (hex : zi_aast pc L st S = some (.inl (pc', L', st', S'))) (kk : zi_Go p l e R s m args below meth c Q D cy A nL n0 ad0 k0 s0 pc' L' st' S') : zi_Go p l e R s m args below meth c Q D cy A nL n0 ad0 k0 s0 pc L st S := by
  obtain ⟨v, i, a, n, f, fs, rfl, hc, hc2, ha, hv, hin, rfl, rfl, rfl⟩ := zi_aast_inv hex
  obtain ⟨hx, hb, hml, hown, hts, hN, hK, hA, hcls, hnm, -⟩ := X
  intro ad ls H locs hag hH hL hst
  have he : (zi_w cy ad S.1 S.2.1)[a]? = some (ad a, .inl (cy 3, n, .inr (.inr (.inr (.inr fun i => (f i).map ad))))) := by rw [zi_w_get ha, hc]; rfl
  have he2 : (zi_w cy ad S.1 S.2.1)[v]? = some (ad v, .inr (3, fs.map (zi_v ad))) := by rw [zi_w_get hv, hc2]; rfl
  have hokC := hH.2.2.2.1 a ha
  rw [hc] at hokC
  refine va_astq hx hb hK hH.1 hH.2.1 hH.2.2.1 a 3 v 3 (r := (RX3, TX3, 8)) he rfl he2 rfl hin hd fun H1 locs1 hP hD hS => ?_
  rw [← zi_up_map] at hP hD
  exact kk ad ls H1 locs1 hag (zi_Hp.put (c := .inl (3, n, .inr (.inr (.inr (.inr (va_up f i.toNatClampNeg (some v))))))) hH ha (fun j k hk => by
    simp only [va_up] at hk
    split at hk
    · cases hk; exact Or.inl hv
    · exact hokC j k hk) hP hD hS) hL (zi_all_tail (zi_all_tail (zi_all_tail hst)))
theorem zi_e_inl (cy : Nat → ClassId) (ad : Nat → Nat) (t : Nat) (q : vp_A) : ∃ x : vp_A, zi_e cy ad (.inl (t, q)) = .inl (cy t, x) ∧ x.1 = q.1 := by
  obtain ⟨n, f | f | f | f | f⟩ := q <;> exact ⟨_, rfl, rfl⟩
theorem zi_q_alen (X : zi_X p s m args meth c R D cy A cc nL o nm rt ad0) (hd : decode cc pc = .ok (.arraylength, 1)) (hex : zi_alen pc L st S = some (.inl (pc', L', st', S'))) (kk : zi_Go p l e R s m args below meth c Q D cy A nL n0 ad0 k0 s0 pc' L' st' S') : zi_Go p l e R s m args below meth c Q D cy A nL n0 ad0 k0 s0 pc L st S := by
  obtain ⟨a, r, t, q, rfl, hc, hat, rfl, rfl, rfl, rfl⟩ := zi_alen_inv hex
  obtain ⟨hx, hb, hml, hown, hts, hN, hK, hA, hcls, hnm, hret, hlk, hRf, hRl, hSF⟩ := X
  intro ad ls H locs hag hH hL hst
  rcases hat with ⟨ht, ha⟩ | ⟨ht, ha⟩
  · obtain ⟨x, hx1, hx2⟩ := zi_e_inl cy ad t q
    have he : (zi_w cy ad S'.1 S'.2.1)[a]? = some (ad a, .inl (cy t, x)) := by rw [zi_w_get ha, hc, hx1]
    have hty : ∃ ty, (zi_tys cy)[t]? = some (cy t, ty) := by
      rcases (by omega : t = 0 ∨ t = 1 ∨ t = 2 ∨ t = 3) with rfl | rfl | rfl | rfl <;> exact ⟨_, rfl⟩
    obtain ⟨ty, hty⟩ := hty
    exact va_alen hx hb hK hH.1 a t he hty (congrArg Int32.ofNat hx2) hd (kk ad ls H locs hag hH hL (zi_all_cons trivial (zi_all_tail hst)))
  · rw [hH.2.2.2.2.2 a ha] at hc
    obtain ⟨n, f⟩ := q
    have hf : ∃ g, f = .inl g := by
      obtain ⟨k, rfl⟩ : ∃ k, a = 1000000 + k := ⟨a - 1000000, by omega⟩
      rw [zi_ro_2] at hc
      unfold zi_ro2 at hc
      split at hc
      · rename_i l hl
        cases hb2 : Nat.beq (k % 2) 0 with
        | true => rw [hb2] at hc; cases hc
        | false =>
          rw [hb2] at hc
          exact ⟨_, ((Prod.mk.inj (Prod.mk.inj (Sum.inl.inj hc)).2).2).symm⟩
      · exact ⟨_, ((Prod.mk.inj (Prod.mk.inj (Sum.inl.inj hc)).2).2).symm⟩
    obtain ⟨g, rfl⟩ := hf
    obtain ⟨j, hj, rfl, rfl, rfl⟩ := zi_ro_arr ha ht hc
    have hSF := hSF.ag hag
    exact va_tlen hx hb (hSF.1.1 j hj).2.2.2 hH.2.2.1 rfl hd (kk ad ls H locs hag hH hL (zi_all_cons trivial (zi_all_tail hst)))
theorem zi_q_ldcT {ix j : Nat} (X : zi_X p s m args meth c R D cy A cc nL o nm rt ad0) (hd : decode cc pc = .ok (.ldc ix, 2)) (hg : (o, ix, j) ∈ zi_TT) (kk : zi_Go p l e R s m args below meth c Q D cy A nL n0 ad0 k0 s0 (pc + 2) L (.ref (1000000 + 2 * j) :: st) S) : zi_Go p l e R s m args below meth c Q D cy A nL n0 ad0 k0 s0 pc L st S := by
  obtain ⟨hx, hb, hml, hown, hts, hN, hK, hA, hcls, hnm, hret, hlk, hRf, hRl, hSF⟩ := X
  intro ad ls H locs hag hH hL hst
  have hSF := (hSF.ag hag).2.2 _ hg
  have k := kk ad ls H locs hag hH hL (zi_all_cons (Or.inr (Nat.le_add_right _ _)) hst)
  exact va_ldcS hx hb hown hSF hd k
theorem zi_q_ldcwT {ix j : Nat} (X : zi_X p s m args meth c R D cy A cc nL o nm rt ad0) (hd : decode cc pc = .ok (.ldc_w ix, 3)) (hg : (o, ix, j) ∈ zi_TT) (kk : zi_Go p l e R s m args below meth c Q D cy A nL n0 ad0 k0 s0 (pc + 3) L (.ref (1000000 + 2 * j) :: st) S) : zi_Go p l e R s m args below meth c Q D cy A nL n0 ad0 k0 s0 pc L st S := by
  obtain ⟨hx, hb, hml, hown, hts, hN, hK, hA, hcls, hnm, hret, hlk, hRf, hRl, hSF⟩ := X
  intro ad ls H locs hag hH hL hst
  have hSF := (hSF.ag hag).2.2 _ hg
  have k := kk ad ls H locs hag hH hL (zi_all_cons (Or.inr (Nat.le_add_right _ _)) hst)
  exact zi_ldcwS hx hb hown hSF hd k
theorem zi_q_gets {ix : Nat} (X : zi_X p s m args meth c R D cy A cc nL o nm rt ad0) (hd : decode cc pc = .ok (.getstatic ix, 3)) (hg : Cond.fieldLink (zi_cn o) ix "java/lang/String" "COMPACT_STRINGS" "Z" ∈ zi_tb) (kk : zi_Go p l e R s m args below meth c Q D cy A nL n0 ad0 k0 s0 (pc + 3) L (.int 1 :: st) S) : zi_Go p l e R s m args below meth c Q D cy A nL n0 ad0 k0 s0 pc L st S := by
  obtain ⟨hx, hb, hml, hown, hts, hN, hK, hA, hcls, hnm, hret, hlk, hRf, hRl, hSF⟩ := X
  intro ad ls H locs hag hH hL hst
  exact va_gets hx hb hSF.2.1 hH.2.2.1 hown (hts _ hg) (fun _ h9 => h9) hd (kk ad ls H locs hag hH hL (zi_all_cons trivial hst))
end ZV
end
section
/-! ===== new cells, arraycopy, max, min, Object's constructor, switches ===== -/
theorem zi_dv_v (ad : Nat → Nat) (t : FieldType) : zi_v ad (zi_dv t) = zi_dv t := by cases t <;> rfl
theorem zi_new_v (ad : Nat → Nat) (x : Nat) : (zi_new x).map (zi_v ad) = zi_new x := by
  unfold zi_new
  rw [List.map_map]
  exact List.map_congr_left fun k _ => zi_dv_v ad _
theorem zi_new_ok (n x : Nat) : ∀ v ∈ zi_new x, zi_ok n v := by
  intro v hv
  obtain ⟨k, -, rfl⟩ := List.mem_map.mp hv
  cases zi_ft x k <;> trivial
set_option maxRecDepth 20000 in
theorem zi_new_def : ∀ x, x < 13 → ∀ j, j < zi_fn x → defaultValue (zi_ft x j) = vp_V (zi_new x) j := by decide +kernel
theorem zi_arr_e (cy : Nat → ClassId) (ad : Nat → Nat) (t n : Nat) : zi_e cy ad (.inl (t, zi_arr t n)) = .inl (cy t, zi_arr t n) := by
  unfold zi_arr
  split <;> rfl
theorem zi_arr_ok (m t n : Nat) : zi_okC m (.inl (t, zi_arr t n)) := by
  unfold zi_arr
  split
  · trivial
  · intro i k h
    cases h
  · trivial
section ZW
variable {p : Program} {l : Launch} {e : Env} {R : Room} {s : State} {m : MethodId} {args : Array Value} {below : List Frame} {meth : Method} {c : Code} {Q : State → Prop} {D : va_G} {cy : Nat → ClassId} {A : Nat → Prop} {cc : ByteArray} {nL n0 k0 s0 o rt n i x y : Nat} {nm : String} {ad0 : Nat → Nat} {pc pc' : Nat} {L L' : zi_L} {st st' : List Value} {S S' : zi_S}
/-- a cell comes: the picture grows -/
theorem zi_grow {ad : Nat → Nat} {ls : Array Slot} {H H1 : Heap} {locs : List Loc} {r : List Value} {cl : zi_C} {w q : Nat} (hn0 : n0 ≤ S.2.1) (hk : k0 ≤ S.2.2.1) (hs : s0 ≤ S.2.2.2) (hn : S.2.1 < 1000000) (hag : zi_ag n0 ad0 ad) (hH : zi_Hp D cy A ad s.heap H locs S) (hL : zi_Lv ad ls nL S.2.1 L) (hst : ∀ v ∈ r, zi_ok S.2.1 v) (hcl : zi_okC S.2.1 cl) (hq : va_P D vwCl (zi_w cy ad S.1 S.2.1 ++ [(q, zi_e cy (va_up ad S.2.1 q) cl)]) H1) (hqD : va_D A (zi_w cy ad S.1 S.2.1 ++ [(q, zi_e cy (va_up ad S.2.1 q) cl)])) (hS : va_S A s.heap H1 locs)
    (kk : zi_Go p l e R s m args below meth c Q D cy A nL n0 ad0 k0 s0 pc' L (.ref S.2.1 :: r) (zi_put S.1 S.2.1 cl, S.2.1 + 1, S.2.2.1 + 1, S.2.2.2 + w)) : W p l e R s m args below meth c H1 locs (S.2.2.1 - k0 + 1) (S.2.2.2 - s0 + w) Q (F0 m pc' ls (.ref q :: r.map (zi_v ad))) := by
  have ha : zi_ag S.2.1 ad (va_up ad S.2.1 q) := fun k hk => by
    have : k ≠ S.2.1 := by omega
    simp [va_up, this]
  have e1 : va_up ad S.2.1 q S.2.1 = q := by simp [va_up]
  rw [zi_w_push ha e1 hH.2.2.2.1] at hq hqD
  have ha0 : zi_ag n0 ad0 (va_up ad S.2.1 q) := fun k hk => (ha k (by omega)).trans (hag k hk)
  have hH1 : zi_Hp D cy A (va_up ad S.2.1 q) s.heap H1 locs (zi_put S.1 S.2.1 cl, S.2.1 + 1, S.2.2.1 + 1, S.2.2.2 + w) := by
    refine ⟨hq, hqD, hS, fun k hk => ?_, by show S.2.1 + 1 ≤ 1000000; omega, fun k hk => ?_⟩
    rotate_left
    · show zi_put S.1 S.2.1 cl k = zi_ro k
      have e : k ≠ S.2.1 := by omega
      simp only [zi_put, va_up, if_neg e]
      exact hH.2.2.2.2.2 k hk
    show zi_okC (S.2.1 + 1) (zi_put S.1 S.2.1 cl k)
    by_cases h : k = S.2.1
    · subst h
      simp only [zi_put, va_up, if_true]
      exact hcl.mono (by omega)
    · simp only [zi_put, va_up, if_neg h]
      have hk' : k < S.2.1 + 1 := hk
      exact (hH.2.2.2.1 k (by omega)).mono (by omega)
  have k := kk _ ls H1 locs ha0 hH1 (hL.ag ha (Nat.le_succ _)) (zi_all_cons (Or.inl (Nat.lt_succ_self _)) fun v hv => (hst v hv).mono (Nat.le_succ _))
  rw [List.map_cons, zi_map_ag ha hst] at k
  have e2 : S.2.2.1 + 1 - k0 = S.2.2.1 - k0 + 1 := by omega
  have e3 : S.2.2.2 + w - s0 = S.2.2.2 - s0 + w := by omega
  have k : W p l e R s m args below meth c H1 locs (S.2.2.1 + 1 - k0) (S.2.2.2 + w - s0) Q (F0 m pc' ls (.ref (va_up ad S.2.1 q S.2.1) :: r.map (zi_v ad))) := k
  rw [e1, e2, e3] at k
  exact k
theorem zi_q_new {ix : Nat} (X : zi_X p s m args meth c R D cy A cc nL o nm rt ad0) (hd : decode cc pc = .ok (.new ix, 3)) (hg : ∃ r : vw_C, vwCl[x]? = some r ∧ r.2.2 = zi_fn x ∧ Cond.classLink (zi_cn o) ix r.1 ∈ zi_tb ∧ Cond.instantiable r.1 r.2.2 ∈ zi_tb ∧ Cond.initialized r.1 ∈ zi_tb) (hex : cond (Nat.blt x 13) (zi_alloc 3 pc L st S (.inr (x, zi_new x)) (zi_fn x)) none = some (.inl (pc', L', st', S'))) (hn0 : n0 ≤ S.2.1) (hk : k0 ≤ S.2.2.1) (hs : s0 ≤ S.2.2.2) (hRc : S'.2.2.1 - k0 ≤ R.cells) (hRs : S'.2.2.2 - s0 ≤ R.slots) (kk : zi_Go p l e R s m args below meth c Q D cy A nL n0 ad0 k0 s0 pc' L' st' S') : zi_Go p l e R s m args below meth c Q D cy A nL n0 ad0 k0 s0 pc L st S := by
  obtain ⟨hx13, hex⟩ := zi_cond_inv hex
  have hx13 := zi_blt hx13
  obtain ⟨hn, rfl, rfl, rfl, rfl⟩ := zi_alloc_inv hex
  obtain ⟨hx, hb, hml, hown, hts, hN, hK, hA, hcls, hnm, -⟩ := X
  obtain ⟨q, hq, hfn, h1, h2, h3⟩ := hg
  intro ad ls H locs hag hH hL hst
  have hRc : S.2.2.1 + 1 - k0 ≤ R.cells := hRc
  have hRs : S.2.2.2 + zi_fn x - s0 ≤ R.slots := hRs
  refine va_new (D := D) (cl := vwCl) (ci := x) (fs := zi_new x) (C := q.1) (T := q.2.1) (N := q.2.2) hx hb hts (hcls x q hq).1 (zi_ft x) (hcls x q hq).2.1 hown (hts _ h1) (hts _ h2) (hts _ h3) hK hH.1 hH.2.1 hH.2.2.1 hA hq (fun j hj => zi_new_def x hx13 j (by rw [← hfn]; exact hj)) (by omega) (by rw [hfn]; omega) hd (fun a H1 hP hD hS => ?_)
  have e1 : ∀ ad', zi_e cy ad' (.inr (x, zi_new x)) = .inr (x, zi_new x) := fun ad' => by simp only [zi_e]; rw [zi_new_v]
  rw [hfn]
  exact zi_grow (cl := .inr (x, zi_new x)) hn0 hk hs hn hag hH hL hst (zi_new_ok _ x) (by rw [e1]; exact hP) (by rw [e1]; exact hD) hS kk
theorem zi_q_newa {t : Nat} {at_ : ClassFile.ArrayType} {ty : FieldType} (hty : newarray.typeOf at_ = ty) (htt : (zi_tys cy)[t]? = some (cy t, ty)) (hne : ∀ C, ty ≠ .object C) (harr : ∀ (cA : ClassId) (N : Nat), vp_cell cA (zi_arr t N) = arrV cA N (fun _ => defaultValue ty)) (hcb : componentBytes ty ≤ 8) (X : zi_X p s m args meth c R D cy A cc nL o nm rt ad0) (hd : decode cc pc = .ok (.newarray at_, 2)) (hg : Cond.arrayClass (newarray.typeOf at_) ∈ zi_tb) (hex : zi_mka 2 pc L st S t = some (.inl (pc', L', st', S'))) (hn0 : n0 ≤ S.2.1) (hk : k0 ≤ S.2.2.1) (hs : s0 ≤ S.2.2.2) (hRc : S'.2.2.1 - k0 ≤ R.cells) (hRs : S'.2.2.2 - s0 ≤ R.slots) (kk : zi_Go p l e R s m args below meth c Q D cy A nL n0 ad0 k0 s0 pc' L' st' S') : zi_Go p l e R s m args below meth c Q D cy A nL n0 ad0 k0 s0 pc L st S := by
  obtain ⟨k, r, rfl, hin, hn, rfl, rfl, rfl, rfl⟩ := zi_mka_inv hex
  obtain ⟨hx, hb, hml, hown, hts, hN, hK, hA, hcls, hnm, -⟩ := X
  intro ad ls H locs hag hH hL hst
  have hRc : S.2.2.1 + 1 - k0 ≤ R.cells := hRc
  have hRs : S.2.2.2 + k.toNatClampNeg - s0 ≤ R.slots := hRs
  have hkl : k.toNatClampNeg < 100000 := Nat.not_le.mp fun q => hin (Or.inr q)
  have hby : k.toNatClampNeg * componentBytes ty ≤ 536870912 := Nat.le_trans (Nat.mul_le_mul (Nat.le_of_lt hkl) hcb) (by decide)
  refine va_newa (D := D) (cl := vwCl) (a0 := zi_arr t k.toNatClampNeg) hx hb (hts _ hg) hty hK hH.1 hH.2.1 hH.2.2.1 hA (fun cA => harr cA _) (fun q => hin (Or.inl q)) rfl hby (by omega) (by omega) hd (fun q cA H1 hK1 hP hD hS => ?_)
  have ec : cA = cy t := by
    have g1 := (hK1.2 4 (cA, ty) rfl).2
    have g2 := (hK.2 t _ htt).2
    have go : ∀ ty : FieldType, (∀ C, ty ≠ .object C) → va_RA s cA ty → va_RA s (cy t) ty → cA = cy t := by
      intro ty hne g1 g2
      cases ty with
      | object C => exact absurd rfl (hne C)
      | _ => exact Option.some.inj (g1.symm.trans g2)
    exact go ty hne g1 g2
  subst ec
  exact zi_grow hn0 hk hs hn hag hH hL (zi_all_tail hst) (zi_arr_ok _ _ _) (by rw [zi_arr_e]; exact hP) (by rw [zi_arr_e]; exact hD) hS kk
theorem zi_q_newq {ix : Nat} (X : zi_X p s m args meth c R D cy A cc nL o nm rt ad0) (hd : decode cc pc = .ok (.anewarray ix, 3)) (hg : Cond.classLink (zi_cn o) ix RX3 ∈ zi_tb ∧ Cond.arrayOver (.object RX3) ∈ zi_nw) (hex : zi_mka 3 pc L st S 3 = some (.inl (pc', L', st', S'))) (hn0 : n0 ≤ S.2.1) (hk : k0 ≤ S.2.2.1) (hs : s0 ≤ S.2.2.2) (hRc : S'.2.2.1 - k0 ≤ R.cells) (hRs : S'.2.2.2 - s0 ≤ R.slots) (kk : zi_Go p l e R s m args below meth c Q D cy A nL n0 ad0 k0 s0 pc' L' st' S') : zi_Go p l e R s m args below meth c Q D cy A nL n0 ad0 k0 s0 pc L st S := by
  obtain ⟨k, r, rfl, hin, hn, rfl, rfl, rfl, rfl⟩ := zi_mka_inv hex
  obtain ⟨hx, hb, hml, hown, hts, hN, hK, hA, hcls, hnm, -⟩ := X
  intro ad ls H locs hag hH hL hst
  have hRc : S.2.2.1 + 1 - k0 ≤ R.cells := hRc
  have hRs : S.2.2.2 + k.toNatClampNeg - s0 ≤ R.slots := hRs
  have hkl : k.toNatClampNeg < 100000 := Nat.not_le.mp fun q => hin (Or.inr q)
  refine va_newq (D := D) (cl := vwCl) hx hb hown (hts _ hg.1) (hN _ hg.2) hK hH.1 hH.2.1 hH.2.2.1 hA (fun q => hin (Or.inl q)) rfl (by omega) (by omega) (by omega) hd (fun q cA H1 hK1 hP hD hS => ?_)
  have ec : cA = cy 3 := by
    have g1 := (hK1.2 4 (cA, .object RX3) rfl).2
    have g2 := (hK.2 3 (cy 3, .object RX3) rfl).2
    obtain ⟨_, _, _, _, _, g1⟩ := g1
    obtain ⟨_, _, _, _, _, g2⟩ := g2
    exact Option.some.inj (g1.symm.trans g2)
  subst ec
  exact zi_grow hn0 hk hs hn hag hH hL (zi_all_tail hst) (zi_arr_ok _ 3 _) hP hD hS kk
theorem zi_q_cpy {ix : Nat} (X : zi_X p s m args meth c R D cy A cc nL o nm rt ad0) (hd : decode cc pc = .ok (.invokestatic ix, 3)) (hg : Cond.methodLink (zi_cn o) ix arraycopyName ∈ zi_tb ∧ Cond.native arraycopyName ∈ zi_tb ∧ Cond.static arraycopyName ∈ zi_tb ∧ Cond.initialized "java/lang/System" ∈ zi_tb) (hex : zi_cpy pc L st S = some (.inl (pc', L', st', S'))) (kk : zi_Go p l e R s m args below meth c Q D cy A nL n0 ad0 k0 s0 pc' L' st' S') : zi_Go p l e R s m args below meth c Q D cy A nL n0 ad0 k0 s0 pc L st S := by
  obtain ⟨n, dp, a, sp, b, n1, g, nz, f, rfl, hc, hc2, ha, hb2, q1, q2, q3, q4, q5, hsm, rfl, rfl, rfl⟩ := zi_cpy_inv hex
  obtain ⟨hx, hb, hml, hown, hts, hN, hK, hA, hcls, hnm, hret, hlk, hRf, hRl, hSF⟩ := X
  intro ad ls H locs hag hH hL hst
  have he : (zi_w cy ad S.1 S.2.1)[a]? = some (ad a, .inl (cy 0, n1, .inl g)) := by rw [zi_w_get ha, hc]; rfl
  have he2 : (zi_w cy ad S.1 S.2.1)[b]? = some (ad b, .inl (cy 0, nz, .inl f)) := by rw [zi_w_get hb2, hc2]; rfl
  have hsz := zi_sm_map (ad := ad) hsm
  have hnf : nativeFrameWords "java/lang/System" "arraycopy" 5 + 11 ≤ 56 := by decide +kernel
  refine va_copyi (D := D) (cl := vwCl) hx hb (hml.trans hL.1.symm) hown (hts _ hg.1) (hts _ hg.2.1) (hts _ hg.2.2.1) (hts _ hg.2.2.2) hK hH.1 hH.2.1 hH.2.2.1 b a 0 0 he2 he rfl rfl rfl q1 q2 q3 q4 q5 (fun _ _ => rfl) hRf (by omega) hd fun H1 locs1 hP hD hS => ?_
  exact kk ad ls H1 locs1 hag (zi_Hp.put (c := .inl (0, n1, .inl (va_cpy f g sp.toNatClampNeg dp.toNatClampNeg n.toNatClampNeg))) hH ha trivial hP hD hS) hL (zi_all_tail (zi_all_tail (zi_all_tail (zi_all_tail (zi_all_tail hst)))))
theorem zi_q_max {ix : Nat} (X : zi_X p s m args meth c R D cy A cc nL o nm rt ad0) (hd : decode cc pc = .ok (.invokestatic ix, 3)) (hg : Cond.methodLink (zi_cn o) ix Lib.Math.max.name ∈ zi_tb ∧ Cond.static Lib.Math.max.name ∈ zi_tb ∧ Cond.initialized "java/lang/Math" ∈ zi_tb ∧ Cond.code Lib.Math.max.name Lib.Math.max.code 2 (some .int) ∈ zi_tb) (hRc : S'.2.2.1 - k0 ≤ R.cells) (hRs : S'.2.2.2 - s0 ≤ R.slots) (hex : zi_m2 pc L st S (fun x y => if x < y then y else x) = some (.inl (pc', L', st', S'))) (kk : zi_Go p l e R s m args below meth c Q D cy A nL n0 ad0 k0 s0 pc' L' st' S') : zi_Go p l e R s m args below meth c Q D cy A nL n0 ad0 k0 s0 pc L st S := by
  obtain ⟨x, y, r, rfl, hsm, rfl, rfl, rfl, rfl⟩ := zi_m2_inv hex
  obtain ⟨hx, hb, hml, hown, hts, hN, hK, hA, hcls, hnm, hret, hlk, hRf, hRl, hSF⟩ := X
  intro ad ls H locs hag hH hL hst
  have hsz := zi_sm_map (ad := ad) hsm
  exact va_mmax hx hb (hml.trans hL.1.symm) hown (hts _ hg.1) (hts _ hg.2.1) (hts _ hg.2.2.1) (hts _ hg.2.2.2) hRf (by omega) hRc hRs hd (kk ad ls H locs hag hH hL (zi_all_cons trivial (zi_all_tail (zi_all_tail hst))))
theorem zi_q_min {ix : Nat} (X : zi_X p s m args meth c R D cy A cc nL o nm rt ad0) (hd : decode cc pc = .ok (.invokestatic ix, 3)) (hg : Cond.methodLink (zi_cn o) ix Lib.Math.min.name ∈ zi_tb ∧ Cond.static Lib.Math.min.name ∈ zi_tb ∧ Cond.initialized "java/lang/Math" ∈ zi_tb ∧ Cond.code Lib.Math.min.name Lib.Math.min.code 2 (some .int) ∈ zi_tb) (hRc : S'.2.2.1 - k0 ≤ R.cells) (hRs : S'.2.2.2 - s0 ≤ R.slots) (hex : zi_m2 pc L st S (fun x y => if y < x then y else x) = some (.inl (pc', L', st', S'))) (kk : zi_Go p l e R s m args below meth c Q D cy A nL n0 ad0 k0 s0 pc' L' st' S') : zi_Go p l e R s m args below meth c Q D cy A nL n0 ad0 k0 s0 pc L st S := by
  obtain ⟨x, y, r, rfl, hsm, rfl, rfl, rfl, rfl⟩ := zi_m2_inv hex
  obtain ⟨hx, hb, hml, hown, hts, hN, hK, hA, hcls, hnm, hret, hlk, hRf, hRl, hSF⟩ := X
  intro ad ls H locs hag hH hL hst
  have hsz := zi_sm_map (ad := ad) hsm
  exact va_mmin hx hb (hml.trans hL.1.symm) hown (hts _ hg.1) (hts _ hg.2.1) (hts _ hg.2.2.1) (hts _ hg.2.2.2) hRf (by omega) hRc hRs hd (kk ad ls H locs hag hH hL (zi_all_cons trivial (zi_all_tail (zi_all_tail hst))))
theorem zi_q_obj {ix : Nat} (X : zi_X p s m args meth c R D cy A cc nL o nm rt ad0) (hd : decode cc pc = .ok (.invokespecial ix, 3)) (hg : Cond.methodLink (zi_cn o) ix Lib.objectInit ∈ zi_tb ∧ Cond.instanceMethod Lib.objectInit ∈ zi_tb ∧ Cond.code Lib.objectInit ⟨#[0xb1]⟩ 1 none ∈ zi_tb) {a : Nat} {r : List Value} (hsm : zi_sm r = true) (kk : zi_Go p l e R s m args below meth c Q D cy A nL n0 ad0 k0 s0 (pc + 3) L r S) : zi_Go p l e R s m args below meth c Q D cy A nL n0 ad0 k0 s0 pc L (.ref a :: r) S := by
  obtain ⟨hx, hb, hml, hown, hts, hN, hK, hA, hcls, hnm, hret, hlk, hRf, hRl, hSF⟩ := X
  intro ad ls H locs hag hH hL hst
  have hsz := zi_sm_map (ad := ad) hsm
  refine W.objInit (g := F0 m pc ls (.ref (ad a) :: r.map (zi_v ad))) hx hb hown (hts _ hg.1) (hts _ hg.2.1) (hts _ hg.2.2) rfl (by rw [hml]; exact hL.1) rfl hd hRf ?_ (kk ad ls H locs hag hH hL (zi_all_tail hst))
  show 2 * 0 + _ + 12 ≤ _
  omega
end ZW
end
section
/-! ===== switches; a step; a return ===== -/
theorem zi_sw_out {v : Int32} {d : Nat} : ∀ {z : List (Int32 × Nat)}, (∀ q ∈ z, v ≠ q.1) → zi_sw v z d = d
  | [], _ => rfl
  | (k, t) :: r, h => by
    simp only [zi_sw]
    rw [if_neg (h (k, t) List.mem_cons_self)]
    exact zi_sw_out fun q hq => h q (List.mem_cons_of_mem _ hq)
theorem zi_sw_in {v : Int32} {d : Nat} : ∀ {z : List (Int32 × Nat)} {k : Nat} {e : Int32 × Nat}, z[k]? = some e → v = e.1 → (∀ j q, j < k → z[j]? = some q → v ≠ q.1) → zi_sw v z d = e.2
  | [], k, e, h, _, _ => by simp at h
  | (a, t) :: r, 0, e, h, hv, _ => by
    simp at h
    subst h
    simp only [zi_sw]
    rw [if_pos hv]
  | (a, t) :: r, k + 1, e, h, hv, hn => by
    simp only [zi_sw]
    rw [if_neg (hn 0 (a, t) (Nat.succ_pos k) rfl)]
    exact zi_sw_in (by simpa using h) hv fun j q hj hq => hn (j + 1) q (Nat.succ_lt_succ hj) (by simpa using hq)
theorem zi_lsw_sw {pc : Nat} {d : Int} {dt : Nat} {v : Int32} (hd : (pc : Int) + d = dt) : ∀ {ps : List (Int × Int)} {z : List (Int32 × Nat)}, zi_lsw pc ps z → ∃ off, Op.lookupswitch.offset ps d v.toInt = off ∧ (pc : Int) + off = (zi_sw v z dt : Nat)
  | [], [], _ => ⟨d, by simp [Op.lookupswitch.offset], hd⟩
  | [], _ :: _, h => h.elim
  | _ :: _, [], h => h.elim
  | a :: as, b :: bs, h => by
    obtain ⟨h1, h2, h3⟩ := h
    obtain ⟨a1, a2⟩ := a
    obtain ⟨b1, b2⟩ := b
    rw [Op.lookupswitch.offset_cons]
    simp only [zi_sw]
    by_cases hv : v = b1
    · subst hv
      rw [if_pos (by first | exact h1 | exact h1.symm), if_pos rfl]
      exact ⟨_, rfl, h2⟩
    · rw [if_neg (fun q => hv (Int32.toInt_inj.mp (by first | exact q.trans h1.symm | exact (h1.trans q).symm | exact h1.trans q))), if_neg hv]
      exact zi_lsw_sw hd h3
section ZX
variable {p : Program} {l : Launch} {e : Env} {R : Room} {s : State} {m : MethodId} {args : Array Value} {below : List Frame} {meth : Method} {c : Code} {Q : State → Prop} {D : va_G} {cy : Nat → ClassId} {A : Nat → Prop} {cc : ByteArray} {nL n0 k0 s0 o rt : Nat} {nm : String} {ad0 : Nat → Nat} {pc pc' : Nat} {L L' : zi_L} {st st' : List Value} {S S' : zi_S}
theorem zi_q_tsw {d lo hi : Int} {offs : Array Int} {len x : Nat} {z : List (Int32 × Nat)} {v : Int32} {r : List Value} (X : zi_X p s m args meth c R D cy A cc nL o nm rt ad0) (hd : decode cc pc = .ok (.tableswitch d lo hi offs, len)) (hg : (pc : Int) + d = x ∧ hi = lo + offs.size - 1 ∧ zi_tsw pc lo offs.toList z) (kk : zi_Go p l e R s m args below meth c Q D cy A nL n0 ad0 k0 s0 (zi_sw v z x) L r S) : zi_Go p l e R s m args below meth c Q D cy A nL n0 ad0 k0 s0 pc L (.int v :: r) S := by
  obtain ⟨hx, hb, hml, hown, hts, hN, hK, hA, hcls, hnm, hret, hlk, hRf, hRl, hSF⟩ := X
  obtain ⟨h1, h2, h3, h4⟩ := hg
  intro ad ls H locs hag hH hL hst
  have k := kk ad ls H locs hag hH hL (zi_all_tail hst)
  have hlen : offs.toList.length = offs.size := Array.length_toList
  by_cases hv : v.toInt < lo ∨ hi < v.toInt
  · rw [zi_sw_out (fun q hq => ?_)] at k
    · exact lv_tableOut hx hb hd hv h1 k
    · intro e1
      obtain ⟨j, hj⟩ := List.getElem?_of_mem hq
      have hjl : j < offs.toList.length := by rw [← h3]; exact (List.getElem?_eq_some_iff.mp hj).1
      obtain ⟨e2, off, g1, g2, g3, g4⟩ := h4 j hjl
      rw [hj] at g1
      cases g1
      rw [e1] at hv
      omega
  · have hv1 : ¬ v.toInt < lo := fun q => hv (Or.inl q)
    have hv2 : ¬ hi < v.toInt := fun q => hv (Or.inr q)
    have hj : (v.toInt - lo).toNat < offs.toList.length := by omega
    obtain ⟨e2, off, g1, g2, g3, g4⟩ := h4 _ hj
    have hve : v = e2.1 := Int32.toInt_inj.mp (by rw [g3]; omega)
    rw [zi_sw_in g1 hve (fun j q hjk hq e1 => ?_)] at k
    · exact lv_tableIn hx hb hd hv1 hv2 (by rw [← Array.getElem?_toList]; exact g2) g4 k
    · obtain ⟨e3, off3, g5, g6, g7, g8⟩ := h4 j (by omega)
      rw [hq] at g5
      cases g5
      rw [e1, g7] at hjk
      omega
theorem zi_q_lsw {d : Int} {ps : Array (Int × Int)} {len x : Nat} {z : List (Int32 × Nat)} {v : Int32} {r : List Value} (X : zi_X p s m args meth c R D cy A cc nL o nm rt ad0) (hd : decode cc pc = .ok (.lookupswitch d ps, len)) (hg : (pc : Int) + d = x ∧ (ps.toList.zip (ps.toList.drop 1)).all (fun (a, next) => a.1 < next.1) = true ∧ zi_lsw pc ps.toList z) (kk : zi_Go p l e R s m args below meth c Q D cy A nL n0 ad0 k0 s0 (zi_sw v z x) L r S) : zi_Go p l e R s m args below meth c Q D cy A nL n0 ad0 k0 s0 pc L (.int v :: r) S := by
  obtain ⟨hx, hb, hml, hown, hts, hN, hK, hA, hcls, hnm, hret, hlk, hRf, hRl, hSF⟩ := X
  obtain ⟨h1, h2, h3⟩ := hg
  intro ad ls H locs hag hH hL hst
  obtain ⟨off, ho, ht⟩ := zi_lsw_sw (v := v) h1 h3
  exact lv_lookup hx hb hd h2 ho ht (kk ad ls H locs hag hH hL (zi_all_tail hst))
end ZX
end
section
/-! ===== a step ===== -/
section ZY
variable {p : Program} {l : Launch} {e : Env} {R : Room} {s : State} {m : MethodId} {args : Array Value} {below : List Frame} {meth : Method} {c : Code} {Q : State → Prop} {D : va_G} {cy : Nat → ClassId} {A : Nat → Prop} {cc : ByteArray} {nL n0 k0 s0 o rt : Nat} {nm : String} {ad0 : Nat → Nat} {pc pc' : Nat} {L L' : zi_L} {st st' : List Value} {S S' : zi_S} {M : Nat → Option zi_MI}
theorem zi_q_if1 {k : ClassFile.Cond} {off : Int} {x : Nat} (X : zi_X p s m args meth c R D cy A cc nL o nm rt ad0) (hd : decode cc pc = .ok (.ifCond k off, 3)) (hg : (pc : Int) + off = x) (hex : zi_if1 pc x L st S k = some (.inl (pc', L', st', S'))) (kk : zi_Go p l e R s m args below meth c Q D cy A nL n0 ad0 k0 s0 pc' L' st' S') : zi_Go p l e R s m args below meth c Q D cy A nL n0 ad0 k0 s0 pc L st S := by
  obtain ⟨hx, hb, -⟩ := X
  unfold zi_if1 at hex
  split at hex
  · rename_i v r
    cases k
    · exact zi_q_br (st := [.int v]) (fun a b => lv_if_eq hx hb hd hg a b) (fun _ => rfl) hex kk
    · exact zi_q_br (st := [.int v]) (fun a b => lv_if_ne hx hb hd hg a (fun q => b (fun r => r q))) (fun _ => rfl) hex kk
    · exact zi_q_br (st := [.int v]) (fun a b => lv_if_lt hx hb hd hg a b) (fun _ => rfl) hex kk
    · exact zi_q_br (st := [.int v]) (fun a b => lv_if_ge hx hb hd hg a b) (fun _ => rfl) hex kk
    · exact zi_q_br (st := [.int v]) (fun a b => lv_if_gt hx hb hd hg a b) (fun _ => rfl) hex kk
    · exact zi_q_br (st := [.int v]) (fun a b => lv_if_le hx hb hd hg a b) (fun _ => rfl) hex kk
  · cases hex
theorem zi_q_if2 {k : ClassFile.Cond} {off : Int} {x : Nat} (X : zi_X p s m args meth c R D cy A cc nL o nm rt ad0) (hd : decode cc pc = .ok (.if_icmp k off, 3)) (hg : (pc : Int) + off = x) (hex : zi_if2 pc x L st S k = some (.inl (pc', L', st', S'))) (kk : zi_Go p l e R s m args below meth c Q D cy A nL n0 ad0 k0 s0 pc' L' st' S') : zi_Go p l e R s m args below meth c Q D cy A nL n0 ad0 k0 s0 pc L st S := by
  obtain ⟨hx, hb, -⟩ := X
  unfold zi_if2 at hex
  split at hex
  · rename_i v w r
    cases k
    · exact zi_q_br (st := [.int v, .int w]) (fun a b => lv_icmp_eq hx hb hd hg a b) (fun _ => rfl) hex kk
    · exact zi_q_br (st := [.int v, .int w]) (fun a b => lv_icmp_ne hx hb hd hg a (fun q => b (fun r => r q))) (fun _ => rfl) hex kk
    · exact zi_q_br (st := [.int v, .int w]) (fun a b => lv_icmp_lt hx hb hd hg a b) (fun _ => rfl) hex kk
    · exact zi_q_br (st := [.int v, .int w]) (fun a b => lv_icmp_ge hx hb hd hg a b) (fun _ => rfl) hex kk
    · exact zi_q_br (st := [.int v, .int w]) (fun a b => lv_icmp_gt hx hb hd hg a b) (fun _ => rfl) hex kk
    · exact zi_q_br (st := [.int v, .int w]) (fun a b => lv_icmp_le hx hb hd hg a b) (fun _ => rfl) hex kk
  · cases hex
theorem zi_q_idiv (X : zi_X p s m args meth c R D cy A cc nL o nm rt ad0) (hd : decode cc pc = .ok (.idiv, 1)) (hex : zi_ex rt (.idiv, 1, 0, 0, []) pc L st S = some (.inl (pc', L', st', S'))) (kk : zi_Go p l e R s m args below meth c Q D cy A nL n0 ad0 k0 s0 pc' L' st' S') : zi_Go p l e R s m args below meth c Q D cy A nL n0 ad0 k0 s0 pc L st S := by
  obtain ⟨hx, hb, -⟩ := X
  simp only [zi_ex] at hex
  split at hex
  · split at hex
    · cases hex
    · rename_i y x r hy
      obtain ⟨rfl, rfl, rfl, rfl⟩ := zi_nx_inv hex
      intro ad ls H locs hag hH hL hst
      exact lv_idiv hx hb hd hy (kk ad ls H locs hag hH hL (zi_all_cons trivial (zi_all_tail (zi_all_tail hst))))
  · cases hex
theorem zi_q_irem (X : zi_X p s m args meth c R D cy A cc nL o nm rt ad0) (hd : decode cc pc = .ok (.irem, 1)) (hex : zi_ex rt (.irem, 1, 0, 0, []) pc L st S = some (.inl (pc', L', st', S'))) (kk : zi_Go p l e R s m args below meth c Q D cy A nL n0 ad0 k0 s0 pc' L' st' S') : zi_Go p l e R s m args below meth c Q D cy A nL n0 ad0 k0 s0 pc L st S := by
  obtain ⟨hx, hb, -⟩ := X
  simp only [zi_ex] at hex
  split at hex
  · split at hex
    · cases hex
    · rename_i y x r hy
      obtain ⟨rfl, rfl, rfl, rfl⟩ := zi_nx_inv hex
      intro ad ls H locs hag hH hL hst
      exact lv_irem hx hb hd hy (kk ad ls H locs hag hH hL (zi_all_cons trivial (zi_all_tail (zi_all_tail hst))))
  · cases hex
theorem zi_q_ldiv (X : zi_X p s m args meth c R D cy A cc nL o nm rt ad0) (hd : decode cc pc = .ok (.ldiv, 1)) (hex : zi_ex rt (.ldiv, 1, 0, 0, []) pc L st S = some (.inl (pc', L', st', S'))) (kk : zi_Go p l e R s m args below meth c Q D cy A nL n0 ad0 k0 s0 pc' L' st' S') : zi_Go p l e R s m args below meth c Q D cy A nL n0 ad0 k0 s0 pc L st S := by
  obtain ⟨hx, hb, -⟩ := X
  simp only [zi_ex] at hex
  split at hex
  · split at hex
    · cases hex
    · rename_i y x r hy
      obtain ⟨rfl, rfl, rfl, rfl⟩ := zi_nx_inv hex
      intro ad ls H locs hag hH hL hst
      exact lv_ldiv hx hb hd hy (kk ad ls H locs hag hH hL (zi_all_cons trivial (zi_all_tail (zi_all_tail hst))))
  · cases hex
theorem zi_q_lrem (X : zi_X p s m args meth c R D cy A cc nL o nm rt ad0) (hd : decode cc pc = .ok (.lrem, 1)) (hex : zi_ex rt (.lrem, 1, 0, 0, []) pc L st S = some (.inl (pc', L', st', S'))) (kk : zi_Go p l e R s m args below meth c Q D cy A nL n0 ad0 k0 s0 pc' L' st' S') : zi_Go p l e R s m args below meth c Q D cy A nL n0 ad0 k0 s0 pc L st S := by
  obtain ⟨hx, hb, -⟩ := X
  simp only [zi_ex] at hex
  split at hex
  · split at hex
    · cases hex
    · rename_i y x r hy
      obtain ⟨rfl, rfl, rfl, rfl⟩ := zi_nx_inv hex
      intro ad ls H locs hag hH hL hst
      exact lv_lrem hx hb hd hy (kk ad ls H locs hag hH hL (zi_all_cons trivial (zi_all_tail (zi_all_tail hst))))
  · cases hex
theorem zi_inv_nx {x y : Nat} {w : Nat × zi_L × List Value × zi_S} : ¬ zi_inv st S x y = some (.inl w) := by
  intro h
  unfold zi_inv at h
  split at h
  · split at h
    · obtain ⟨-, h⟩ := zi_cond_inv h
      cases h
    · cases h
  · cases h
theorem zi_invs_nx {x y : Nat} {w : Nat × zi_L × List Value × zi_S} : ¬ zi_invs st x y = some (.inl w) := by
  intro h
  unfold zi_invs at h
  split at h
  · obtain ⟨-, h⟩ := zi_cond_inv h
    cases h
  · cases h
theorem zi_step {q : zi_I} (X0 : zi_X p s m args meth c R D cy A cc nL o nm rt ad0) (hd : decode cc pc = .ok (q.1, q.2.1)) (hlen : q.2.1 = zi_ln q.1 q.2.1) (hg : zi_good M nm o pc q) (hex : zi_ex rt q pc L st S = some (.inl (pc', L', st', S'))) (hn0 : n0 ≤ S.2.1) (hk : k0 ≤ S.2.2.1) (hs : s0 ≤ S.2.2.2) (hRc : S'.2.2.1 - k0 ≤ R.cells) (hRs : S'.2.2.2 - s0 ≤ R.slots) (kk : zi_Go p l e R s m args below meth c Q D cy A nL n0 ad0 k0 s0 pc' L' st' S') : zi_Go p l e R s m args below meth c Q D cy A nL n0 ad0 k0 s0 pc L st S := by
  obtain ⟨i, len, x, y, z⟩ := q
  obtain ⟨hx, hb, hml, hown, hts, hN, hK, hA, hcls, hnm, hret, hlk, hRf, hRl, hSF⟩ := id X0
  dsimp only at hd hlen
  cases i with
  | iconst n =>
    have hlen : len = 1 := hlen
    subst hlen
    exact zi_q_push (v := .int (Int32.ofInt n)) (n := 1) (Or.inl rfl) (fun _ => trivial) (fun _ => rfl) (fun k => lv_iconst hx hb hd rfl k) hex kk
  | bipush n =>
    have hlen : len = 2 := hlen
    subst hlen
    exact zi_q_push (v := .int (Int8.ofInt n).toInt32) (n := 2) (Or.inl rfl) (fun _ => trivial) (fun _ => rfl) (fun k => lv_bipush hx hb hd rfl k) hex kk
  | sipush n =>
    have hlen : len = 3 := hlen
    subst hlen
    exact zi_q_push (v := .int (Int16.ofInt n).toInt32) (n := 3) (Or.inl rfl) (fun _ => trivial) (fun _ => rfl) (fun k => lv_sipush hx hb hd rfl k) hex kk
  | lconst n =>
    have hlen : len = 1 := hlen
    subst hlen
    exact zi_q_push (v := .long (Int64.ofNat n)) (n := 1) (Or.inr rfl) (fun _ => trivial) (fun _ => rfl) (fun k => lv_lconst hx hb hd rfl k) hex kk
  | ldc n =>
    have hlen : len = 2 := hlen
    subst hlen
    cases y with
    | zero => exact zi_q_push (v := .int (Int32.ofNat x)) (n := 2) (Or.inl rfl) (fun _ => trivial) (fun _ => rfl) (fun k => lv_ldc hx hb hown (hts _ hg) hd k) hex kk
    | succ y =>
      obtain ⟨j, hj, hg⟩ : ∃ j, x = 2 * j ∧ (o, n, j) ∈ zi_TT := hg
      subst hj
      obtain ⟨rfl, rfl, rfl, rfl⟩ := zi_nx_inv hex
      exact zi_q_ldcT X0 hd hg kk
  | ldc_w n =>
    have hlen : len = 3 := hlen
    subst hlen
    cases y with
    | zero => exact zi_q_push (v := .int (Int32.ofNat x)) (n := 3) (Or.inl rfl) (fun _ => trivial) (fun _ => rfl) (fun k => lv_ldcw hx hb hown (hts _ hg) hd k) hex kk
    | succ y =>
      obtain ⟨j, hj, hg⟩ : ∃ j, x = 2 * j ∧ (o, n, j) ∈ zi_TT := hg
      subst hj
      obtain ⟨rfl, rfl, rfl, rfl⟩ := zi_nx_inv hex
      exact zi_q_ldcwT X0 hd hg kk
  | getstatic n =>
    have hlen : len = 3 := hlen
    subst hlen
    obtain ⟨hg1, hg⟩ : x = 1 ∧ _ := hg
    subst hg1
    obtain ⟨rfl, rfl, rfl, rfl⟩ := zi_nx_inv hex
    exact zi_q_gets X0 hd hg kk
  | ldc2_w n =>
    have hlen : len = 3 := hlen
    subst hlen
    exact zi_q_push (v := .long (Int64.ofNat x)) (n := 3) (Or.inr rfl) (fun _ => trivial) (fun _ => rfl) (fun k => lv_ldc2 hx hb hown (hts _ hg) hd k) hex kk
  | iload_n n =>
    have hlen : len = 1 := hlen
    subst hlen
    exact zi_q_iload (n := 1) (fun a k => lv_iload_n hx hb hd rfl a k) hex kk
  | iload n =>
    have hlen : len = 2 := hlen
    subst hlen
    exact zi_q_iload (n := 2) (fun a k => lv_iload hx hb hd a k) hex kk
  | istore_n n =>
    have hlen : len = 1 := hlen
    subst hlen
    exact zi_q_istore (n := 1) (fun a b k => lv_istore_n hx hb hd rfl a b rfl k) hex kk
  | istore n =>
    have hlen : len = 2 := hlen
    subst hlen
    exact zi_q_istore (n := 2) (fun a b k => lv_istore hx hb hd a b rfl k) hex kk
  | lload_n n =>
    have hlen : len = 1 := hlen
    subst hlen
    exact zi_q_lload (n := 1) (fun a k => lv_lload_n hx hb hd rfl a k) hex kk
  | lload n =>
    have hlen : len = 2 := hlen
    subst hlen
    exact zi_q_lload (n := 2) (fun a k => lv_lload hx hb hd a k) hex kk
  | lstore_n n =>
    have hlen : len = 1 := hlen
    subst hlen
    exact zi_q_lstore (n := 1) (fun a b k => lv_lstore_n hx hb hd rfl a b rfl k) hex kk
  | lstore n =>
    have hlen : len = 2 := hlen
    subst hlen
    exact zi_q_lstore (n := 2) (fun a b k => lv_lstore hx hb hd a b rfl k) hex kk
  | aload_n n =>
    have hlen : len = 1 := hlen
    subst hlen
    exact zi_q_aload (n := 1) (fun a k => lv_aload_n hx hb hd rfl a k) hex kk
  | aload n =>
    have hlen : len = 2 := hlen
    subst hlen
    exact zi_q_aload (n := 2) (fun a k => lv_aload hx hb hd a k) hex kk
  | astore_n n =>
    have hlen : len = 1 := hlen
    subst hlen
    exact zi_q_astore (n := 1) (fun a b k => lv_astore_n hx hb hd rfl a b rfl k) hex kk
  | astore n =>
    have hlen : len = 2 := hlen
    subst hlen
    exact zi_q_astore (n := 2) (fun a b k => lv_astore hx hb hd a b rfl k) hex kk
  | iinc i n =>
    have hlen : len = 3 := hlen
    subst hlen
    simp only [zi_ex] at hex
    split at hex
    · rename_i v hv
      obtain ⟨L1, h3, h4⟩ := Option.bind_eq_some_iff.mp hex
      obtain ⟨rfl, rfl, rfl, rfl⟩ := zi_nx_inv h4
      intro ad ls H locs hag hH hL hst
      obtain ⟨k, hk⟩ := List.getElem?_of_mem (zi_as_mem (ad := ad) (q := (i, .int v)).mpr ⟨.int v, hv, rfl⟩)
      exact lv_iinc hx hb hd hL.has hk rfl (by rw [← hL.2.1]; exact (zi_st1_inv h3).1) rfl fun ls' hl' => kk ad ls' H locs hag hH (hL.st1 (v := .int (v + Int32.ofInt n)) h3 trivial hl') hst
    · cases hex
  | iadd =>
    have hlen : len = 1 := hlen
    subst hlen
    exact zi_q_i2 (f := fun x y => x + y) (fun k => lv_iadd hx hb hd k) hex kk
  | isub =>
    have hlen : len = 1 := hlen
    subst hlen
    exact zi_q_i2 (f := fun x y => x - y) (fun k => lv_isub hx hb hd k) hex kk
  | imul =>
    have hlen : len = 1 := hlen
    subst hlen
    exact zi_q_i2 (f := fun x y => x * y) (fun k => lv_imul hx hb hd k) hex kk
  | iand =>
    have hlen : len = 1 := hlen
    subst hlen
    exact zi_q_i2 (f := fun x y => x &&& y) (fun k => lv_iand hx hb hd k) hex kk
  | ior =>
    have hlen : len = 1 := hlen
    subst hlen
    exact zi_q_i2 (f := fun x y => x ||| y) (fun k => lv_ior hx hb hd k) hex kk
  | ixor =>
    have hlen : len = 1 := hlen
    subst hlen
    exact zi_q_i2 (f := fun x y => x ^^^ y) (fun k => lv_ixor hx hb hd k) hex kk
  | ishl =>
    have hlen : len = 1 := hlen
    subst hlen
    exact zi_q_i2 (f := fun x y => x <<< (y &&& 31)) (fun k => lv_ishl hx hb hd k) hex kk
  | ishr =>
    have hlen : len = 1 := hlen
    subst hlen
    exact zi_q_i2 (f := fun x y => x >>> (y &&& 31)) (fun k => lv_ishr hx hb hd k) hex kk
  | iushr =>
    have hlen : len = 1 := hlen
    subst hlen
    exact zi_q_i2 (f := fun x y => (x.toUInt32 >>> (y.toUInt32 &&& Int32.toUInt32 31)).toInt32) (fun k => lv_iushr hx hb hd rfl k) hex kk
  | ineg =>
    have hlen : len = 1 := hlen
    subst hlen
    exact zi_q_i1 (f := fun x => -x) (fun k => lv_ineg hx hb hd k) hex kk
  | i2b =>
    have hlen : len = 1 := hlen
    subst hlen
    exact zi_q_i1 (f := fun x => x.toInt8.toInt32) (fun k => lv_i2b hx hb hd rfl k) hex kk
  | i2s =>
    have hlen : len = 1 := hlen
    subst hlen
    exact zi_q_i1 (f := fun x => x.toInt16.toInt32) (fun k => lv_i2s hx hb hd rfl k) hex kk
  | i2c =>
    have hlen : len = 1 := hlen
    subst hlen
    exact zi_q_i1 (f := fun x => (x.toUInt32 % 65536).toInt32) (fun k => lv_i2c hx hb hd rfl k) hex kk
  | ladd =>
    have hlen : len = 1 := hlen
    subst hlen
    exact zi_q_l2 (f := fun x y => x + y) (fun k => lv_ladd hx hb hd k) hex kk
  | lsub =>
    have hlen : len = 1 := hlen
    subst hlen
    exact zi_q_l2 (f := fun x y => x - y) (fun k => lv_lsub hx hb hd k) hex kk
  | lmul =>
    have hlen : len = 1 := hlen
    subst hlen
    exact zi_q_l2 (f := fun x y => x * y) (fun k => lv_lmul hx hb hd k) hex kk
  | idiv =>
    have hlen : len = 1 := hlen
    subst hlen
    exact zi_q_idiv X0 hd hex kk
  | irem =>
    have hlen : len = 1 := hlen
    subst hlen
    exact zi_q_irem X0 hd hex kk
  | ldiv =>
    have hlen : len = 1 := hlen
    subst hlen
    exact zi_q_ldiv X0 hd hex kk
  | lrem =>
    have hlen : len = 1 := hlen
    subst hlen
    exact zi_q_lrem X0 hd hex kk
  | i2l =>
    have hlen : len = 1 := hlen
    subst hlen
    simp only [zi_ex] at hex
    split at hex
    · obtain ⟨rfl, rfl, rfl, rfl⟩ := zi_nx_inv hex
      intro ad ls H locs hag hH hL hst
      exact lv_i2l hx hb hd rfl (kk ad ls H locs hag hH hL (zi_all_cons trivial (zi_all_tail hst)))
    · cases hex
  | lcmp =>
    have hlen : len = 1 := hlen
    subst hlen
    simp only [zi_ex] at hex
    split at hex
    · obtain ⟨rfl, rfl, rfl, rfl⟩ := zi_nx_inv hex
      intro ad ls H locs hag hH hL hst
      exact W.lcmp hx hb hd (kk ad ls H locs hag hH hL (zi_all_cons trivial (zi_all_tail (zi_all_tail hst))))
    · cases hex
  | dup =>
    have hlen : len = 1 := hlen
    subst hlen
    simp only [zi_ex] at hex
    split at hex
    · obtain ⟨h1, h2⟩ := zi_cond_inv hex
      obtain ⟨rfl, rfl, rfl, rfl⟩ := zi_nx_inv h2
      intro ad ls H locs hag hH hL hst
      exact lv_dup hx hb hd (by rw [zi_v_cat]; exact zi_k1_cat h1) (kk ad ls H locs hag hH hL (zi_all_cons (zi_all_head hst) hst))
    · cases hex
  | dup2 =>
    have hlen : len = 1 := hlen
    subst hlen
    simp only [zi_ex] at hex
    split at hex
    · obtain ⟨h1, h2⟩ := zi_cond_inv hex
      rw [Bool.and_eq_true] at h1
      obtain ⟨rfl, rfl, rfl, rfl⟩ := zi_nx_inv h2
      intro ad ls H locs hag hH hL hst
      exact lv_dup2_11 hx hb hd (by rw [zi_v_cat]; exact zi_k1_cat h1.1) (by rw [zi_v_cat]; exact zi_k1_cat h1.2) (kk ad ls H locs hag hH hL (zi_all_cons (zi_all_head hst) (zi_all_cons (zi_all_head (zi_all_tail hst)) hst)))
    · cases hex
  | pop =>
    have hlen : len = 1 := hlen
    subst hlen
    simp only [zi_ex] at hex
    split at hex
    · obtain ⟨h1, h2⟩ := zi_cond_inv hex
      obtain ⟨rfl, rfl, rfl, rfl⟩ := zi_nx_inv h2
      intro ad ls H locs hag hH hL hst
      exact lv_pop hx hb hd (by rw [zi_v_cat]; exact zi_k1_cat h1) (kk ad ls H locs hag hH hL (zi_all_tail hst))
    · cases hex
  | goto off =>
    have hlen : len = 3 := hlen
    subst hlen
    obtain ⟨rfl, rfl, rfl, rfl⟩ := zi_nx_inv hex
    intro ad ls H locs hag hH hL hst
    exact lv_goto hx hb hd hg (kk ad ls H locs hag hH hL hst)
  | ifCond k off =>
    have hlen : len = 3 := hlen
    subst hlen
    exact zi_q_if1 X0 hd hg hex kk
  | if_icmp k off =>
    have hlen : len = 3 := hlen
    subst hlen
    exact zi_q_if2 X0 hd hg hex kk
  | tableswitch d lo hi offs =>
    simp only [zi_ex] at hex
    split at hex
    · obtain ⟨rfl, rfl, rfl, rfl⟩ := zi_nx_inv hex
      exact zi_q_tsw X0 hd hg kk
    · cases hex
  | lookupswitch d ps =>
    simp only [zi_ex] at hex
    split at hex
    · obtain ⟨rfl, rfl, rfl, rfl⟩ := zi_nx_inv hex
      exact zi_q_lsw X0 hd hg kk
    · cases hex
  | getfield ix =>
    have hlen : len = 3 := hlen
    subst hlen
    exact zi_q_getf X0 hd hg hex kk
  | putfield ix =>
    have hlen : len = 3 := hlen
    subst hlen
    exact zi_q_putf X0 hd hg hex kk
  | iaload =>
    have hlen : len = 1 := hlen
    subst hlen
    exact zi_q_iald X0 hd hex kk
  | baload =>
    have hlen : len = 1 := hlen
    subst hlen
    exact zi_q_zald X0 hd hex kk
  | laload =>
    have hlen : len = 1 := hlen
    subst hlen
    exact zi_q_lald X0 hd hex kk
  | aaload =>
    have hlen : len = 1 := hlen
    subst hlen
    exact zi_q_aald X0 hd hex kk
  | iastore =>
    have hlen : len = 1 := hlen
    subst hlen
    exact zi_q_iast X0 hd hex kk
  | bastore =>
    have hlen : len = 1 := hlen
    subst hlen
    exact zi_q_zast X0 hd hex kk
  | lastore =>
    have hlen : len = 1 := hlen
    subst hlen
    exact zi_q_last X0 hd hex kk
  | aastore =>
    have hlen : len = 1 := hlen
    subst hlen
    exact zi_q_aast X0 hd hex kk
  | arraylength =>
    have hlen : len = 1 := hlen
    subst hlen
    exact zi_q_alen X0 hd hex kk
  | newarray t =>
    have hlen : len = 2 := hlen
    subst hlen
    cases t with
    | int => exact zi_q_newa (ty := .int) rfl rfl (fun _ h => by cases h) (fun _ _ => rfl) (by decide) X0 hd hg hex hn0 hk hs hRc hRs kk
    | long => exact zi_q_newa (ty := .long) rfl rfl (fun _ h => by cases h) (fun _ _ => rfl) (by decide) X0 hd hg hex hn0 hk hs hRc hRs kk
    | boolean => exact zi_q_newa (ty := .boolean) rfl rfl (fun _ h => by cases h) (fun _ _ => rfl) (by decide) X0 hd hg hex hn0 hk hs hRc hRs kk
    | _ => cases hex
  | anewarray ix =>
    have hlen : len = 3 := hlen
    subst hlen
    exact zi_q_newq X0 hd hg hex hn0 hk hs hRc hRs kk
  | new ix =>
    have hlen : len = 3 := hlen
    subst hlen
    exact zi_q_new X0 hd hg hex hn0 hk hs hRc hRs kk
  | invokespecial ix =>
    have hlen : len = 3 := hlen
    subst hlen
    simp only [zi_ex] at hex
    cases hb9 : Nat.beq x 9000 with
    | true =>
      rw [hb9] at hex
      have hx9 := zi_beq hb9
      subst hx9
      simp only [cond_true] at hex
      split at hex
      · obtain ⟨h1, h2⟩ := zi_cond_inv hex
        obtain ⟨rfl, rfl, rfl, rfl⟩ := zi_nx_inv h2
        exact zi_q_obj X0 hd hg h1 kk
      · cases hex
    | false =>
      rw [hb9] at hex
      simp only [cond_false] at hex
      exact absurd hex zi_inv_nx
  | invokevirtual ix =>
    have hlen : len = 3 := hlen
    subst hlen
    exact absurd hex zi_inv_nx
  | invokestatic ix =>
    have hlen : len = 3 := hlen
    subst hlen
    simp only [zi_ex] at hex
    split at hex
    · exact zi_q_max X0 hd hg hRc hRs hex kk
    · exact zi_q_min X0 hd hg hRc hRs hex kk
    · exact zi_q_cpy X0 hd hg hex kk
    · exact absurd hex zi_invs_nx
  | ireturn =>
    have hlen : len = 1 := hlen
    subst hlen
    exact absurd hex (by intro h; simp only [zi_ex] at h; (repeat' split at h) <;> cases h)
  | lreturn =>
    have hlen : len = 1 := hlen
    subst hlen
    exact absurd hex (by intro h; simp only [zi_ex] at h; (repeat' split at h) <;> cases h)
  | return_ =>
    have hlen : len = 1 := hlen
    subst hlen
    exact absurd hex (by intro h; simp only [zi_ex] at h; (repeat' split at h) <;> cases h)
  | _ => cases hex
end ZY
end
section
/-! ===== runs and calls of the abstract machine ===== -/
def zi_steps (P : Nat → Option zi_I) (rt : Nat) (call : Nat → List Value → zi_S → Option (Option Value × zi_S)) : Nat → Nat → zi_L → List Value → zi_S → Option (Option Value × zi_S)
  | 0, _, _, _, _ => none
  | f + 1, pc, L, st, S => match P pc with
    | none => none
    | some q => match zi_ex rt q pc L st S with
      | none => none
      | some (.inl w) => zi_steps P rt call f w.1 w.2.1 w.2.2.1 w.2.2.2
      | some (.inr (.inl v)) => some (v, S)
      | some (.inr (.inr w)) => match call w.1 w.2.1 S with
        | none => none
        | some u => zi_steps P rt call f (pc + 3) L (u.1.toList ++ w.2.2) u.2
/-- pr: methods whose contracts are given otherwise -/
def zi_call (P : Nat → Nat → Option zi_I) (M : Nat → Option zi_MI) (pr : Nat → List Value → zi_S → Option (Option Value × zi_S)) (f : Nat) : Nat → Nat → List Value → zi_S → Option (Option Value × zi_S)
  | 0, _, _, _ => none
  | d + 1, x, as, S => match pr x as S with
    | some r => some r
    | none => match M x with
      | none => none
      | some D => cond (Nat.ble (zi_ent as).length D.2.2.1) (zi_steps (P x) D.2.2.2.1 (zi_call P M pr f d) f 0 (zi_ent as ++ List.replicate (D.2.2.1 - (zi_ent as).length) none) [] S) none
def zi_R (d mc ms : Nat) : Room := { frames := d, cells := mc, slots := ms, locals := 64 * d }
def zi_le (S S' : zi_S) : Prop := S.2.1 ≤ S'.2.1 ∧ S.2.2.1 ≤ S'.2.2.1 ∧ S.2.2.2 ≤ S'.2.2.2
theorem zi_le.rf {S : zi_S} : zi_le S S := ⟨Nat.le_refl _, Nat.le_refl _, Nat.le_refl _⟩
theorem zi_le.tr {S S' S'' : zi_S} (h : zi_le S S') (h' : zi_le S' S'') : zi_le S S'' := ⟨Nat.le_trans h.1 h'.1, Nat.le_trans h.2.1 h'.2.1, Nat.le_trans h.2.2 h'.2.2⟩
def zi_Pre (D : va_G) (cy : Nat → ClassId) (ad : Nat → Nat) (as : List Value) (S : zi_S) (sz : Nat) : Array Value → State → Prop := va_Pc (as.map (zi_v ad)) (fun U => U.heap.size = sz ∧ va_P D vwCl (zi_w cy ad S.1 S.2.1) U.heap ∧ va_K D vwCl (zi_tys cy) U ∧ va_D (fun _ => True) (zi_w cy ad S.1 S.2.1) ∧ (∀ w ∈ zi_nw, va_Nw w U) ∧ zi_SF ad (va_A (zi_w cy ad S.1 S.2.1) sz) U U.heap)
def zi_wfS (S : zi_S) : Prop := (∀ k, k < S.2.1 → zi_okC S.2.1 (S.1 k)) ∧ S.2.1 ≤ 1000000 ∧ ∀ k, 1000000 ≤ k → S.1 k = zi_ro k
def zi_B (D : va_G) (cy : Nat → ClassId) (ad : Nat → Nat) (S : zi_S) (v : Option Value) (S' : zi_S) (sz : Nat) (oc : Outcome) (t : State) : Prop := ∃ ad', zi_ag S.2.1 ad ad' ∧ oc = .returned v ∧ va_P D vwCl (zi_w cy ad' S'.1 S'.2.1) t.heap ∧ va_D (va_A (zi_w cy ad S.1 S.2.1) sz) (zi_w cy ad' S'.1 S'.2.1)
def zi_Post (D : va_G) (cy : Nat → ClassId) (ad : Nat → Nat) (S : zi_S) (v : Option Value) (S' : zi_S) (sz : Nat) : Array Value → State → Outcome → State → Prop := fun _ st oc t => (zi_B D cy ad S v S' sz oc t ∧ zi_wfS S') ∧ va_F (va_A (zi_w cy ad S.1 S.2.1) sz) st t
/-- what is returned is a number or nothing -/
def zi_num : Option Value → Prop
  | none => True
  | some (.int _) => True
  | some (.long _) => True
  | _ => False
theorem zi_num_v {v : Option Value} (h : zi_num v) (ad : Nat → Nat) : v.toList.map (zi_v ad) = v.toList := by
  rcases v with _ | v
  · rfl
  · cases v <;> first | rfl | exact h.elim
theorem zi_num_ok {v : Option Value} (h : zi_num v) (n : Nat) : ∀ w ∈ v.toList, zi_ok n w := by
  rcases v with _ | v
  · intro w hw
    cases hw
  · intro w hw
    have e : w = v := by simpa using hw
    subst e
    cases w <;> first | trivial | exact h.elim
/-- the contract of method x at depth d -/
def zi_Met (l : Launch) (M : Nat → Option zi_MI) (d x : Nat) (as : List Value) (S : zi_S) (v : Option Value) (S' : zi_S) : Prop := zi_le S S' ∧ zi_num v ∧ ∀ (DM : zi_MI) (D : va_G) (cy : Nat → ClassId) (ad : Nat → Nat) (sz : Nat), M x = some DM → zi_wfS S → (∀ w ∈ as, zi_ok S.2.1 w) → Met l DM.1 (Cond.code DM.1 DM.2.1 DM.2.2.1 (zi_rt DM.2.2.2.1) :: zi_tb) (zi_R d (S'.2.2.1 - S.2.2.1) (S'.2.2.2 - S.2.2.2)) (zi_Pre D cy ad as S sz) (zi_Post D cy ad S v S' sz) (S'.2.2.1 - S.2.2.1) (S'.2.2.2 - S.2.2.2) (va_A (zi_w cy ad S.1 S.2.1) sz)
theorem zi_nw_is {w : Cond} (h : w ∈ zi_nw) : zi_isN w = true := (List.mem_filter.mp h).2
theorem zi_nw_warm {s U : State} (hW : s.WarmedH U.vm) (h : ∀ w ∈ zi_nw, va_Nw w s) : ∀ w ∈ zi_nw, va_Nw w U := by
  intro w hw
  have h1 := h w hw
  have h2 := zi_nw_is hw
  cases w with
  | fieldLinkNest a b c d e f => exact va_Nw.warmF hW h1
  | methodLinkNest a b c d => exact va_Nw.warmM hW h1
  | arrayOver t =>
    cases t with
    | object C => exact va_AO.moved hW.alike h1
    | _ => cases h2
  | _ => cases h2
theorem zi_nw_same {s U : State} (hv : s.vm = U.vm) (h : ∀ w ∈ zi_nw, va_Nw w s) : ∀ w ∈ zi_nw, va_Nw w U := by
  intro w hw
  have h1 := h w hw
  have h2 := zi_nw_is hw
  cases w with
  | fieldLinkNest a b c d e f => exact va_Nw.same rfl hv h1
  | methodLinkNest a b c d => exact va_Nw.same rfl hv h1
  | arrayOver t =>
    cases t with
    | object C => exact va_AO.moved (by rw [hv]; exact Vm.Alike.refl U.vm) h1
    | _ => cases h2
  | _ => cases h2
theorem zi_blind {D : va_G} {cy : Nat → ClassId} {ad : Nat → Nat} {as : List Value} {S : zi_S} {sz : Nat} : FrameBlind (zi_Pre D cy ad as S sz) := by
  intro a U g mk q
  obtain ⟨q0, q1, qP, qK, qD, qN, qS⟩ := q
  exact ⟨q0, q1, qP, va_K.moved (u := U) (U := U.calling g mk a) (Vm.Alike.refl U.vm) qK, qD, zi_nw_same (s := U) (U := U.calling g mk a) rfl qN, zi_SF.same (u := U) (U := U.calling g mk a) qS rfl⟩
theorem zi_tb_good {w : Cond} (h : w ∈ zi_tb) : goodWord w = true := (List.mem_filter.mp h).2
theorem zi_goodIn {y : MethodName} {b : ByteArray} {mL : Nat} {ret : Option FieldType} (h : Cond.code y b mL ret ∈ zi_tb) : GoodIn zi_tb (Cond.code y b mL ret :: zi_tb) := by
  intro w hw
  rcases List.mem_cons.mp hw with rfl | hw
  · exact ⟨h, good_of_word (zi_tb_good h)⟩
  · exact ⟨hw, good_of_word (zi_tb_good hw)⟩
section ZZ
variable {p : Program} {l : Launch} {e : Env} {R : Room} {s : State} {m : MethodId} {args : Array Value} {below : List Frame} {meth : Method} {c : Code} {Q : State → Prop} {D : va_G} {cy : Nat → ClassId} {A : Nat → Prop} {cc : ByteArray} {nL n0 k0 s0 o rt : Nat} {nm : String} {ad0 : Nat → Nat} {pc pc' : Nat} {L L' : zi_L} {st st' : List Value} {S S' : zi_S} {M : Nat → Option zi_MI}
/-- behind a call -/
theorem zi_cont {H H0 : Heap} {locs : List Loc} {cells slots mc ms : Nat} {ls : Array Slot} {st0 rest : List Value} {ad : Nat → Nat} {v : Option Value} {a : Array Value} {free : Addr → Prop} (hr : va_Run p l e R s m args below meth c H locs cells slots mc ms (F0 m pc ls st0) rest (zi_Post D cy ad S v S' H.size a) free) (hS : va_S A H0 H locs) (hA : ∀ q, q < H.size → va_A (zi_w cy ad S.1 S.2.1) H.size q → A q) (hf : ∀ q, free q → A q)
    (kk : ∀ (ad' : Nat → Nat) (H1 : Heap) (locs1 : List Loc), zi_ag S.2.1 ad ad' → zi_wfS S' → va_P D vwCl (zi_w cy ad' S'.1 S'.2.1) H1 → va_D (va_A (zi_w cy ad S.1 S.2.1) H.size) (zi_w cy ad' S'.1 S'.2.1) → va_S A H0 H1 locs1 → W p l e R s m args below meth c H1 locs1 (cells + mc) (slots + ms) Q (F0 m (pc + 3) ls (v.toList ++ rest))) : W p l e R s m args below meth c H locs cells slots Q (F0 m pc ls st0) := by
  intro T hT X
  obtain ⟨v', st₀, t, T', L, h0, X', hL, e1, e2, ⟨⟨⟨ad', hag, hv, hP, hD⟩, hwf⟩, hz, hk⟩, st⟩ := hr T hT X
  cases hv
  rw [h0] at hz hk
  obtain ⟨t2, a1, b1⟩ := kk ad' T'.heap (locs ++ L) hag hwf (by rw [e1]; exact hP) hD
    ⟨Nat.le_trans hS.1 (by rw [e1]; exact hz), fun q h1 h2 => by rw [e1, hk q (Nat.lt_of_lt_of_le h1 hS.1) (fun z => h2 (hA q (Nat.lt_of_lt_of_le h1 hS.1) z))]; exact hS.2.1 q h1 h2, fun q hq => by
      rcases List.mem_append.mp hq with h | h
      · exact hS.2.2 q h
      · exact hf _ (hL q h)⟩ T' rfl X'
  exact ⟨t2, st t2 a1, b1⟩
theorem zi_pop_inv : ∀ {n : Nat} {st as bs r : List Value}, zi_pop n st bs = some (as, r) → ∃ xs, xs.length = n ∧ as = xs ++ bs ∧ st = xs.reverse ++ r
  | 0, st, as, bs, r, h => by
    cases h
    exact ⟨[], rfl, rfl, rfl⟩
  | n + 1, [], as, bs, r, h => by cases h
  | n + 1, v :: st, as, bs, r, h => by
    obtain ⟨xs, h1, h2, h3⟩ := zi_pop_inv (n := n) (st := st) (bs := v :: bs) h
    exact ⟨xs ++ [v], by simp [h1], by simp [h2], by simp [h3]⟩
theorem zi_inv_inv {x y x' : Nat} {as r : List Value} (h : zi_inv st S x y = some (.inr (.inr (x', as, r)))) : ∃ (a : Nat) (bs : List Value) (ci : Nat) (fs : List Value), x' = x ∧ as = .ref a :: bs ∧ bs.length = y ∧ st = bs.reverse ++ .ref a :: r ∧ S.1 a = .inr (ci, fs) ∧ ci = x / 200 ∧ (a < S.2.1 ∨ 1000000 ≤ a) ∧ zi_sm r = true := by
  unfold zi_inv at h
  split at h
  · rename_i a bs r' hp
    obtain ⟨xs, h1, h2, h3⟩ := zi_pop_inv hp
    rw [List.append_nil] at h2
    split at h
    · rename_i ci fs hc
      obtain ⟨h4, h5⟩ := zi_cond_inv h
      simp only [Bool.and_eq_true, Bool.or_eq_true] at h4
      cases h5
      refine ⟨a, bs, ci, fs, rfl, rfl, ?_, ?_, hc, zi_beq h4.1, zi_or (by rw [Bool.or_eq_true]; exact h4.2.1), h4.2.2⟩
      · rw [← h2] at h1
        simpa using h1
      · rw [h3, ← h2]
        simp
    · cases h
  · cases h
theorem zi_invs_inv {x y x' : Nat} {as r : List Value} (h : zi_invs st x y = some (.inr (.inr (x', as, r)))) : x' = x ∧ as.length = y ∧ st = as.reverse ++ r ∧ zi_sm r = true := by
  unfold zi_invs at h
  split at h
  · rename_i bs r' hp
    obtain ⟨xs, h1, h2, h3⟩ := zi_pop_inv hp
    rw [List.append_nil] at h2
    subst h2
    obtain ⟨h4, h5⟩ := zi_cond_inv h
    cases h5
    exact ⟨rfl, h1, h3, h4⟩
  · cases h
/-- a call that returns, seen by the caller -/
theorem zi_after {d mc ms : Nat} {ad : Nat → Nat} {ls : Array Slot} {H : Heap} {locs : List Loc} {as r : List Value} {v : Option Value} {DM : zi_MI} (hmc : mc = S'.2.2.1 - S.2.2.1) (hms : ms = S'.2.2.2 - S.2.2.2) (hA : ∀ q, s.heap.size ≤ q → A q) (hle : zi_le S S') (hnum : zi_num v) (hn0 : n0 ≤ S.2.1) (hk : k0 ≤ S.2.2.1) (hs : s0 ≤ S.2.2.2) (hag : zi_ag n0 ad0 ad) (hH : zi_Hp D cy A ad s.heap H locs S) (hL : zi_Lv ad ls nL S.2.1 L) (hst : ∀ w ∈ r, zi_ok S.2.1 w) (a : Array Value)
    (hr : va_Run p l e R s m args below meth c H locs (S.2.2.1 - k0) (S.2.2.2 - s0) mc ms (F0 m pc ls (st.map (zi_v ad))) (r.map (zi_v ad)) (zi_Post D cy ad S v S' H.size a) (va_A (zi_w cy ad S.1 S.2.1) H.size))
    (kk : zi_Go p l e R s m args below meth c Q D cy A nL n0 ad0 k0 s0 (pc + 3) L (v.toList ++ r) S') : W p l e R s m args below meth c H locs (S.2.2.1 - k0) (S.2.2.2 - s0) Q (F0 m pc ls (st.map (zi_v ad))) := by
  have hin : ∀ q, va_A (zi_w cy ad S.1 S.2.1) H.size q → A q := by
    intro q hq
    rcases hq with ⟨k, ee, hq⟩ | hq
    · exact hH.2.1.2 k _ hq
    · exact hA q (Nat.le_trans hH.2.2.1.1 hq)
  refine zi_cont hr hH.2.2.1 (fun q _ h => hin q h) hin fun ad' H1 locs1 ha hwf hP hD hS => ?_
  have k := kk ad' ls H1 locs1 (fun j hj => (ha j (by omega)).trans (hag j hj)) ⟨hP, ⟨hD.1, fun j q hq => hin _ (hD.2 j q hq)⟩, hS, hwf.1, hwf.2.1, hwf.2.2⟩ (hL.ag ha hle.1) (fun w hw => by
    rcases List.mem_append.mp hw with h | h
    · exact zi_num_ok hnum _ w h
    · exact (hst w h).mono hle.1)
  rw [List.map_append, zi_num_v hnum, zi_map_ag ha hst] at k
  have e1 : S'.2.2.1 - k0 = S.2.2.1 - k0 + mc := by have := hle.2.1; omega
  have e2 : S'.2.2.2 - s0 = S.2.2.2 - s0 + ms := by have := hle.2.2; omega
  rw [e1, e2] at k
  exact k
end ZZ
end
section
/-! ===== what a step can be ===== -/
def zi_pl (S : zi_S) (r : Option zi_O) : Prop := ∀ o, r = some o → ∃ w, o = .inl w ∧ zi_le S w.2.2.2
theorem zi_pl_none {S : zi_S} : zi_pl S none := fun _ h => by cases h
theorem zi_pl_nx {S d : zi_S} {a : Nat} {b : zi_L} {c : List Value} (h : zi_le S d) : zi_pl S (zi_nx a b c d) := fun o ho => by
  cases ho
  exact ⟨_, rfl, h⟩
theorem zi_pl_cond {S : zi_S} {b : Bool} {x : Option zi_O} (h : zi_pl S x) : zi_pl S (cond b x none) := by
  cases b
  · exact zi_pl_none
  · exact h
theorem zi_pl_bind {S : zi_S} {x : Option zi_L} {f : zi_L → Option zi_O} (h : ∀ L, zi_pl S (f L)) : zi_pl S (x.bind f) := by
  cases x
  · exact zi_pl_none
  · exact h _
theorem zi_pl_br {S : zi_S} {pc t : Nat} {L : zi_L} {r : List Value} {b : Prop} [Decidable b] : zi_pl S (zi_br pc t L r S b) := by
  unfold zi_br
  split <;> exact zi_pl_nx zi_le.rf
theorem zi_pl_put {S : zi_S} {h : Nat → zi_C} : zi_le S (h, S.2) := zi_le.rf
theorem zi_pl_alloc {S : zi_S} {n pc w : Nat} {L : zi_L} {r : List Value} {c : zi_C} : zi_pl S (zi_alloc n pc L r S c w) := by
  unfold zi_alloc
  exact zi_pl_cond (zi_pl_nx ⟨Nat.le_succ _, Nat.le_succ _, Nat.le_add_right _ _⟩)
theorem zi_pl_i1 {S : zi_S} {pc : Nat} {L : zi_L} {st : List Value} {f1 : Int32 → Int32} : zi_pl S (zi_i1 pc L st S f1) := by
  unfold zi_i1
  (repeat' split) <;> first | exact zi_pl_none | exact zi_pl_nx zi_le.rf | exact zi_pl_br | exact zi_pl_cond (zi_pl_nx zi_le.rf) | exact zi_pl_cond (zi_pl_nx zi_pl_put) | exact zi_pl_cond (zi_pl_bind fun _ => zi_pl_nx zi_le.rf) | exact zi_pl_bind (fun _ => zi_pl_nx zi_le.rf) | exact zi_pl_cond zi_pl_alloc
theorem zi_pl_i2 {S : zi_S} {pc : Nat} {L : zi_L} {st : List Value} {f2 : Int32 → Int32 → Int32} : zi_pl S (zi_i2 pc L st S f2) := by
  unfold zi_i2
  (repeat' split) <;> first | exact zi_pl_none | exact zi_pl_nx zi_le.rf | exact zi_pl_br | exact zi_pl_cond (zi_pl_nx zi_le.rf) | exact zi_pl_cond (zi_pl_nx zi_pl_put) | exact zi_pl_cond (zi_pl_bind fun _ => zi_pl_nx zi_le.rf) | exact zi_pl_bind (fun _ => zi_pl_nx zi_le.rf) | exact zi_pl_cond zi_pl_alloc
theorem zi_pl_l2 {S : zi_S} {pc : Nat} {L : zi_L} {st : List Value} {f3 : Int64 → Int64 → Int64} : zi_pl S (zi_l2 pc L st S f3) := by
  unfold zi_l2
  (repeat' split) <;> first | exact zi_pl_none | exact zi_pl_nx zi_le.rf | exact zi_pl_br | exact zi_pl_cond (zi_pl_nx zi_le.rf) | exact zi_pl_cond (zi_pl_nx zi_pl_put) | exact zi_pl_cond (zi_pl_bind fun _ => zi_pl_nx zi_le.rf) | exact zi_pl_bind (fun _ => zi_pl_nx zi_le.rf) | exact zi_pl_cond zi_pl_alloc
theorem zi_pl_lod {S : zi_S} {n : Nat} {pc : Nat} {L : zi_L} {st : List Value} {i : Nat} {kv : Value → Bool} : zi_pl S (zi_lod n pc L st S i kv) := by
  unfold zi_lod
  (repeat' split) <;> first | exact zi_pl_none | exact zi_pl_nx zi_le.rf | exact zi_pl_br | exact zi_pl_cond (zi_pl_nx zi_le.rf) | exact zi_pl_cond (zi_pl_nx zi_pl_put) | exact zi_pl_cond (zi_pl_bind fun _ => zi_pl_nx zi_le.rf) | exact zi_pl_bind (fun _ => zi_pl_nx zi_le.rf) | exact zi_pl_cond zi_pl_alloc
theorem zi_pl_sto {S : zi_S} {n : Nat} {pc : Nat} {L : zi_L} {st : List Value} {i : Nat} {kv : Value → Bool} : zi_pl S (zi_sto n pc L st S i kv) := by
  unfold zi_sto
  (repeat' split) <;> first | exact zi_pl_none | exact zi_pl_nx zi_le.rf | exact zi_pl_br | exact zi_pl_cond (zi_pl_nx zi_le.rf) | exact zi_pl_cond (zi_pl_nx zi_pl_put) | exact zi_pl_cond (zi_pl_bind fun _ => zi_pl_nx zi_le.rf) | exact zi_pl_bind (fun _ => zi_pl_nx zi_le.rf) | exact zi_pl_cond zi_pl_alloc
theorem zi_pl_sto2 {S : zi_S} {n : Nat} {pc : Nat} {L : zi_L} {st : List Value} {i : Nat} : zi_pl S (zi_sto2 n pc L st S i) := by
  unfold zi_sto2
  (repeat' split) <;> first | exact zi_pl_none | exact zi_pl_nx zi_le.rf | exact zi_pl_br | exact zi_pl_cond (zi_pl_nx zi_le.rf) | exact zi_pl_cond (zi_pl_nx zi_pl_put) | exact zi_pl_cond (zi_pl_bind fun _ => zi_pl_nx zi_le.rf) | exact zi_pl_bind (fun _ => zi_pl_nx zi_le.rf) | exact zi_pl_cond zi_pl_alloc
theorem zi_pl_if1 {S : zi_S} {pc : Nat} {t : Nat} {L : zi_L} {st : List Value} {q : ClassFile.Cond} : zi_pl S (zi_if1 pc t L st S q) := by
  unfold zi_if1
  (repeat' split) <;> first | exact zi_pl_none | exact zi_pl_nx zi_le.rf | exact zi_pl_br | exact zi_pl_cond (zi_pl_nx zi_le.rf) | exact zi_pl_cond (zi_pl_nx zi_pl_put) | exact zi_pl_cond (zi_pl_bind fun _ => zi_pl_nx zi_le.rf) | exact zi_pl_bind (fun _ => zi_pl_nx zi_le.rf) | exact zi_pl_cond zi_pl_alloc
theorem zi_pl_if2 {S : zi_S} {pc : Nat} {t : Nat} {L : zi_L} {st : List Value} {q : ClassFile.Cond} : zi_pl S (zi_if2 pc t L st S q) := by
  unfold zi_if2
  (repeat' split) <;> first | exact zi_pl_none | exact zi_pl_nx zi_le.rf | exact zi_pl_br | exact zi_pl_cond (zi_pl_nx zi_le.rf) | exact zi_pl_cond (zi_pl_nx zi_pl_put) | exact zi_pl_cond (zi_pl_bind fun _ => zi_pl_nx zi_le.rf) | exact zi_pl_bind (fun _ => zi_pl_nx zi_le.rf) | exact zi_pl_cond zi_pl_alloc
theorem zi_pl_putf {S : zi_S} {pc : Nat} {L : zi_L} {st : List Value} {x : Nat} {y : Nat} : zi_pl S (zi_putf pc L st S x y) := by
  unfold zi_putf
  (repeat' split) <;> first | exact zi_pl_none | exact zi_pl_nx zi_le.rf | exact zi_pl_br | exact zi_pl_cond (zi_pl_nx zi_le.rf) | exact zi_pl_cond (zi_pl_nx zi_pl_put) | exact zi_pl_cond (zi_pl_bind fun _ => zi_pl_nx zi_le.rf) | exact zi_pl_bind (fun _ => zi_pl_nx zi_le.rf) | exact zi_pl_cond zi_pl_alloc
theorem zi_pl_ald {S : zi_S} {pc : Nat} {L : zi_L} {st : List Value} {t : Nat} : zi_pl S (zi_ald pc L st S t) := by
  unfold zi_ald
  (repeat' split) <;> first | exact zi_pl_none | exact zi_pl_nx zi_le.rf | exact zi_pl_br | exact zi_pl_cond (zi_pl_nx zi_le.rf) | exact zi_pl_cond (zi_pl_nx zi_pl_put) | exact zi_pl_cond (zi_pl_bind fun _ => zi_pl_nx zi_le.rf) | exact zi_pl_bind (fun _ => zi_pl_nx zi_le.rf) | exact zi_pl_cond zi_pl_alloc
theorem zi_pl_bald {S : zi_S} {pc : Nat} {L : zi_L} {st : List Value} : zi_pl S (zi_bald pc L st S) := by
  unfold zi_bald
  (repeat' split) <;> first | exact zi_pl_none | exact zi_pl_nx zi_le.rf | exact zi_pl_br | exact zi_pl_cond (zi_pl_nx zi_le.rf) | exact zi_pl_cond (zi_pl_nx zi_pl_put) | exact zi_pl_cond (zi_pl_bind fun _ => zi_pl_nx zi_le.rf) | exact zi_pl_bind (fun _ => zi_pl_nx zi_le.rf) | exact zi_pl_cond zi_pl_alloc
theorem zi_pl_lald {S : zi_S} {pc : Nat} {L : zi_L} {st : List Value} : zi_pl S (zi_lald pc L st S) := by
  unfold zi_lald
  (repeat' split) <;> first | exact zi_pl_none | exact zi_pl_nx zi_le.rf | exact zi_pl_br | exact zi_pl_cond (zi_pl_nx zi_le.rf) | exact zi_pl_cond (zi_pl_nx zi_pl_put) | exact zi_pl_cond (zi_pl_bind fun _ => zi_pl_nx zi_le.rf) | exact zi_pl_bind (fun _ => zi_pl_nx zi_le.rf) | exact zi_pl_cond zi_pl_alloc
theorem zi_pl_aald {S : zi_S} {pc : Nat} {L : zi_L} {st : List Value} : zi_pl S (zi_aald pc L st S) := by
  unfold zi_aald
  (repeat' split) <;> first | exact zi_pl_none | exact zi_pl_nx zi_le.rf | exact zi_pl_br | exact zi_pl_cond (zi_pl_nx zi_le.rf) | exact zi_pl_cond (zi_pl_nx zi_pl_put) | exact zi_pl_cond (zi_pl_bind fun _ => zi_pl_nx zi_le.rf) | exact zi_pl_bind (fun _ => zi_pl_nx zi_le.rf) | exact zi_pl_cond zi_pl_alloc
theorem zi_pl_ast {S : zi_S} {pc : Nat} {L : zi_L} {st : List Value} {t : Nat} {f1 : Int32 → Int32} : zi_pl S (zi_ast pc L st S t f1) := by
  unfold zi_ast
  (repeat' split) <;> first | exact zi_pl_none | exact zi_pl_nx zi_le.rf | exact zi_pl_br | exact zi_pl_cond (zi_pl_nx zi_le.rf) | exact zi_pl_cond (zi_pl_nx zi_pl_put) | exact zi_pl_cond (zi_pl_bind fun _ => zi_pl_nx zi_le.rf) | exact zi_pl_bind (fun _ => zi_pl_nx zi_le.rf) | exact zi_pl_cond zi_pl_alloc
theorem zi_pl_last {S : zi_S} {pc : Nat} {L : zi_L} {st : List Value} : zi_pl S (zi_last pc L st S) := by
  unfold zi_last
  (repeat' split) <;> first | exact zi_pl_none | exact zi_pl_nx zi_le.rf | exact zi_pl_br | exact zi_pl_cond (zi_pl_nx zi_le.rf) | exact zi_pl_cond (zi_pl_nx zi_pl_put) | exact zi_pl_cond (zi_pl_bind fun _ => zi_pl_nx zi_le.rf) | exact zi_pl_bind (fun _ => zi_pl_nx zi_le.rf) | exact zi_pl_cond zi_pl_alloc
theorem zi_pl_aast {S : zi_S} {pc : Nat} {L : zi_L} {st : List Value} : zi_pl S (zi_aast pc L st S) := by
  unfold zi_aast
  (repeat' split) <;> first | exact zi_pl_none | exact zi_pl_nx zi_le.rf | exact zi_pl_br | exact zi_pl_cond (zi_pl_nx zi_le.rf) | exact zi_pl_cond (zi_pl_nx zi_pl_put) | exact zi_pl_cond (zi_pl_bind fun _ => zi_pl_nx zi_le.rf) | exact zi_pl_bind (fun _ => zi_pl_nx zi_le.rf) | exact zi_pl_cond zi_pl_alloc
theorem zi_pl_alen {S : zi_S} {pc : Nat} {L : zi_L} {st : List Value} : zi_pl S (zi_alen pc L st S) := by
  unfold zi_alen
  (repeat' split) <;> first | exact zi_pl_none | exact zi_pl_nx zi_le.rf | exact zi_pl_br | exact zi_pl_cond (zi_pl_nx zi_le.rf) | exact zi_pl_cond (zi_pl_nx zi_pl_put) | exact zi_pl_cond (zi_pl_bind fun _ => zi_pl_nx zi_le.rf) | exact zi_pl_bind (fun _ => zi_pl_nx zi_le.rf) | exact zi_pl_cond zi_pl_alloc
theorem zi_pl_cpy {S : zi_S} {pc : Nat} {L : zi_L} {st : List Value} : zi_pl S (zi_cpy pc L st S) := by
  unfold zi_cpy
  (repeat' split) <;> first | exact zi_pl_none | exact zi_pl_nx zi_le.rf | exact zi_pl_br | exact zi_pl_cond (zi_pl_nx zi_le.rf) | exact zi_pl_cond (zi_pl_nx zi_pl_put) | exact zi_pl_cond (zi_pl_bind fun _ => zi_pl_nx zi_le.rf) | exact zi_pl_bind (fun _ => zi_pl_nx zi_le.rf) | exact zi_pl_cond zi_pl_alloc
theorem zi_pl_mka {S : zi_S} {n : Nat} {pc : Nat} {L : zi_L} {st : List Value} {t : Nat} : zi_pl S (zi_mka n pc L st S t) := by
  unfold zi_mka
  (repeat' split) <;> first | exact zi_pl_none | exact zi_pl_nx zi_le.rf | exact zi_pl_br | exact zi_pl_cond (zi_pl_nx zi_le.rf) | exact zi_pl_cond (zi_pl_nx zi_pl_put) | exact zi_pl_cond (zi_pl_bind fun _ => zi_pl_nx zi_le.rf) | exact zi_pl_bind (fun _ => zi_pl_nx zi_le.rf) | exact zi_pl_cond zi_pl_alloc
theorem zi_pl_m2 {S : zi_S} {pc : Nat} {L : zi_L} {st : List Value} {f2 : Int32 → Int32 → Int32} : zi_pl S (zi_m2 pc L st S f2) := by
  unfold zi_m2
  (repeat' split) <;> first | exact zi_pl_none | exact zi_pl_nx zi_le.rf | exact zi_pl_br | exact zi_pl_cond (zi_pl_nx zi_le.rf) | exact zi_pl_cond (zi_pl_nx zi_pl_put) | exact zi_pl_cond (zi_pl_bind fun _ => zi_pl_nx zi_le.rf) | exact zi_pl_bind (fun _ => zi_pl_nx zi_le.rf) | exact zi_pl_cond zi_pl_alloc
theorem zi_pl_getf {S : zi_S} {pc : Nat} {L : zi_L} {st : List Value} {x : Nat} {y : Nat} : zi_pl S (zi_getf pc L st S x y) := by
  unfold zi_getf
  split
  · split
    · refine zi_pl_cond ?_
      split
      · exact zi_pl_nx zi_le.rf
      · exact zi_pl_none
    · exact zi_pl_none
  · exact zi_pl_none
theorem zi_ex_kind {rt pc : Nat} {q : zi_I} {L : zi_L} {st : List Value} {S : zi_S} : zi_pl S (zi_ex rt q pc L st S) ∨ (∃ ix, q.1 = .invokevirtual ix ∧ zi_ex rt q pc L st S = zi_inv st S q.2.2.1 q.2.2.2.1) ∨ (∃ ix, q.1 = .invokespecial ix ∧ q.2.2.1 ≠ 9000 ∧ zi_ex rt q pc L st S = zi_inv st S q.2.2.1 q.2.2.2.1) ∨ (∃ ix, q.1 = .invokestatic ix ∧ q.2.2.1 ≠ 9001 ∧ q.2.2.1 ≠ 9002 ∧ q.2.2.1 ≠ 9003 ∧ zi_ex rt q pc L st S = zi_invs st q.2.2.1 q.2.2.2.1) ∨ ((q.1 = .ireturn ∨ q.1 = .lreturn ∨ q.1 = .return_) ∧ ∀ o, zi_ex rt q pc L st S = some o → ∃ v, o = .inr (.inl v)) := by
  obtain ⟨i, len, x, y, z⟩ := q
  cases i with
  | iconst => 
    left
    exact zi_pl_nx zi_le.rf
  | bipush => 
    left
    exact zi_pl_nx zi_le.rf
  | sipush => 
    left
    exact zi_pl_nx zi_le.rf
  | lconst => 
    left
    exact zi_pl_nx zi_le.rf
  | ldc => 
    left
    exact zi_pl_nx zi_le.rf
  | ldc_w => 
    left
    exact zi_pl_nx zi_le.rf
  | ldc2_w => 
    left
    exact zi_pl_nx zi_le.rf
  | getstatic => 
    left
    exact zi_pl_nx zi_le.rf
  | iload_n => 
    left
    exact zi_pl_lod
  | iload => 
    left
    exact zi_pl_lod
  | lload_n => 
    left
    exact zi_pl_lod
  | lload => 
    left
    exact zi_pl_lod
  | aload_n => 
    left
    exact zi_pl_lod
  | aload => 
    left
    exact zi_pl_lod
  | istore_n => 
    left
    exact zi_pl_sto
  | istore => 
    left
    exact zi_pl_sto
  | astore_n => 
    left
    exact zi_pl_sto
  | astore => 
    left
    exact zi_pl_sto
  | lstore_n => 
    left
    exact zi_pl_sto2
  | lstore => 
    left
    exact zi_pl_sto2
  | iinc => 
    left
    simp only [zi_ex]
    (repeat' split) <;> first | exact zi_pl_none | exact zi_pl_nx zi_le.rf | exact zi_pl_cond (zi_pl_nx zi_le.rf) | exact zi_pl_bind (fun _ => zi_pl_nx zi_le.rf)
  | iadd => 
    left
    exact zi_pl_i2
  | isub => 
    left
    exact zi_pl_i2
  | imul => 
    left
    exact zi_pl_i2
  | iand => 
    left
    exact zi_pl_i2
  | ior => 
    left
    exact zi_pl_i2
  | ixor => 
    left
    exact zi_pl_i2
  | ishl => 
    left
    exact zi_pl_i2
  | ishr => 
    left
    exact zi_pl_i2
  | iushr => 
    left
    exact zi_pl_i2
  | idiv => 
    left
    simp only [zi_ex]
    (repeat' split) <;> first | exact zi_pl_none | exact zi_pl_nx zi_le.rf | exact zi_pl_cond (zi_pl_nx zi_le.rf) | exact zi_pl_bind (fun _ => zi_pl_nx zi_le.rf)
  | irem => 
    left
    simp only [zi_ex]
    (repeat' split) <;> first | exact zi_pl_none | exact zi_pl_nx zi_le.rf | exact zi_pl_cond (zi_pl_nx zi_le.rf) | exact zi_pl_bind (fun _ => zi_pl_nx zi_le.rf)
  | ineg => 
    left
    exact zi_pl_i1
  | i2b => 
    left
    exact zi_pl_i1
  | i2s => 
    left
    exact zi_pl_i1
  | i2c => 
    left
    exact zi_pl_i1
  | i2l => 
    left
    simp only [zi_ex]
    (repeat' split) <;> first | exact zi_pl_none | exact zi_pl_nx zi_le.rf | exact zi_pl_cond (zi_pl_nx zi_le.rf) | exact zi_pl_bind (fun _ => zi_pl_nx zi_le.rf)
  | ladd => 
    left
    exact zi_pl_l2
  | lsub => 
    left
    exact zi_pl_l2
  | lmul => 
    left
    exact zi_pl_l2
  | ldiv => 
    left
    simp only [zi_ex]
    (repeat' split) <;> first | exact zi_pl_none | exact zi_pl_nx zi_le.rf | exact zi_pl_cond (zi_pl_nx zi_le.rf) | exact zi_pl_bind (fun _ => zi_pl_nx zi_le.rf)
  | lrem => 
    left
    simp only [zi_ex]
    (repeat' split) <;> first | exact zi_pl_none | exact zi_pl_nx zi_le.rf | exact zi_pl_cond (zi_pl_nx zi_le.rf) | exact zi_pl_bind (fun _ => zi_pl_nx zi_le.rf)
  | lcmp => 
    left
    simp only [zi_ex]
    (repeat' split) <;> first | exact zi_pl_none | exact zi_pl_nx zi_le.rf | exact zi_pl_cond (zi_pl_nx zi_le.rf) | exact zi_pl_bind (fun _ => zi_pl_nx zi_le.rf)
  | dup => 
    left
    simp only [zi_ex]
    (repeat' split) <;> first | exact zi_pl_none | exact zi_pl_nx zi_le.rf | exact zi_pl_cond (zi_pl_nx zi_le.rf) | exact zi_pl_bind (fun _ => zi_pl_nx zi_le.rf)
  | dup2 => 
    left
    simp only [zi_ex]
    (repeat' split) <;> first | exact zi_pl_none | exact zi_pl_nx zi_le.rf | exact zi_pl_cond (zi_pl_nx zi_le.rf) | exact zi_pl_bind (fun _ => zi_pl_nx zi_le.rf)
  | pop => 
    left
    simp only [zi_ex]
    (repeat' split) <;> first | exact zi_pl_none | exact zi_pl_nx zi_le.rf | exact zi_pl_cond (zi_pl_nx zi_le.rf) | exact zi_pl_bind (fun _ => zi_pl_nx zi_le.rf)
  | goto => 
    left
    exact zi_pl_nx zi_le.rf
  | ifCond => 
    left
    exact zi_pl_if1
  | if_icmp => 
    left
    exact zi_pl_if2
  | tableswitch => 
    left
    simp only [zi_ex]
    (repeat' split) <;> first | exact zi_pl_none | exact zi_pl_nx zi_le.rf | exact zi_pl_cond (zi_pl_nx zi_le.rf) | exact zi_pl_bind (fun _ => zi_pl_nx zi_le.rf)
  | lookupswitch => 
    left
    simp only [zi_ex]
    (repeat' split) <;> first | exact zi_pl_none | exact zi_pl_nx zi_le.rf | exact zi_pl_cond (zi_pl_nx zi_le.rf) | exact zi_pl_bind (fun _ => zi_pl_nx zi_le.rf)
  | getfield => 
    left
    exact zi_pl_getf
  | putfield => 
    left
    exact zi_pl_putf
  | iaload => 
    left
    exact zi_pl_ald
  | baload => 
    left
    exact zi_pl_bald
  | laload => 
    left
    exact zi_pl_lald
  | aaload => 
    left
    exact zi_pl_aald
  | iastore => 
    left
    exact zi_pl_ast
  | bastore => 
    left
    exact zi_pl_ast
  | lastore => 
    left
    exact zi_pl_last
  | aastore => 
    left
    exact zi_pl_aast
  | arraylength => 
    left
    exact zi_pl_alen
  | anewarray => 
    left
    exact zi_pl_mka
  | new => 
    left
    exact zi_pl_cond zi_pl_alloc
  | newarray t =>
    left
    cases t <;> first | exact zi_pl_mka | exact zi_pl_none
  | invokevirtual ix => exact Or.inr (Or.inl ⟨ix, rfl, rfl⟩)
  | invokespecial ix =>
    cases hb9 : Nat.beq x 9000 with
    | true =>
      left
      simp only [zi_ex, hb9, cond_true]
      split
      · exact zi_pl_cond (zi_pl_nx zi_le.rf)
      · exact zi_pl_none
    | false => exact Or.inr (Or.inr (Or.inl ⟨ix, rfl, (fun h => by rw [show x = 9000 from h] at hb9; exact absurd hb9 (by decide)), by simp only [zi_ex, hb9, cond_false]⟩))
  | invokestatic ix =>
    by_cases h1 : x = 9001
    · subst h1
      exact Or.inl zi_pl_m2
    · by_cases h2 : x = 9002
      · subst h2
        exact Or.inl zi_pl_m2
      · by_cases h3 : x = 9003
        · subst h3
          exact Or.inl zi_pl_cpy
        · refine Or.inr (Or.inr (Or.inr (Or.inl ⟨ix, rfl, h1, h2, h3, ?_⟩)))
          simp only [zi_ex]
  | ireturn =>
    refine Or.inr (Or.inr (Or.inr (Or.inr ⟨Or.inl rfl, fun o h => ?_⟩)))
    simp only [zi_ex] at h
    (repeat' split at h) <;> first | (cases h; done) | (cases h; exact ⟨_, rfl⟩)
  | lreturn =>
    refine Or.inr (Or.inr (Or.inr (Or.inr ⟨Or.inr (Or.inl rfl), fun o h => ?_⟩)))
    simp only [zi_ex] at h
    (repeat' split at h) <;> first | (cases h; done) | (cases h; exact ⟨_, rfl⟩)
  | return_ =>
    refine Or.inr (Or.inr (Or.inr (Or.inr ⟨Or.inr (Or.inr rfl), fun o h => ?_⟩)))
    simp only [zi_ex] at h
    (repeat' split at h) <;> first | (cases h; done) | (cases h; exact ⟨_, rfl⟩)
  | _ => exact Or.inl zi_pl_none
end
section
/-! ===== calls and returns are the machine's ===== -/
section ZAA
variable {p : Program} {l : Launch} {e : Env} {R : Room} {s : State} {m : MethodId} {args : Array Value} {below : List Frame} {meth : Method} {c : Code} {Q : State → Prop} {D : va_G} {cy : Nat → ClassId} {A : Nat → Prop} {cc : ByteArray} {nL n0 k0 s0 o rt d : Nat} {nm : String} {ad0 : Nat → Nat} {pc pc' : Nat} {L L' : zi_L} {st st' : List Value} {S S' : zi_S} {M : Nat → Option zi_MI} {v : Option Value}
theorem zi_preS {ad : Nat → Nat} {H : Heap} {locs : List Loc} {as : List Value} (hA : ∀ q, s.heap.size ≤ q → A q) (hK : va_K D vwCl (zi_tys cy) s) (hN : ∀ w ∈ zi_nw, va_Nw w s) (hSF : zi_SF ad A s s.heap) (hH : zi_Hp D cy A ad s.heap H locs S) : PreS s H (zi_Pre D cy ad as S H.size) (as.map (zi_v ad)) :=
  ⟨zi_blind, fun U hU hW => ⟨rfl, by rw [hU], by rw [hU]; exact hH.1, va_K.moved hW.alike hK, hH.2.1.weaken (fun _ _ _ _ => trivial), zi_nw_warm hW hN, by
    rw [hU]
    refine hSF.sub hH.2.2.1.2.1 (fun q hq => ?_) hW
    rcases hq with ⟨k, ee, hq⟩ | hq
    · exact hH.2.1.2 k _ hq
    · exact hA q (Nat.le_trans hH.2.2.1.1 hq)⟩⟩
theorem zi_c_V {ix x y x' : Nat} {as r : List Value} (X : zi_X p s m args meth c R D cy A cc nL o nm rt ad0) (hRf : d + 1 ≤ R.frames) (hRl : 64 * (d + 1) ≤ R.locals) (hd : decode cc pc = .ok (.invokevirtual ix, 3)) (hg : zi_gV M o ix x y) (hex : zi_inv st S x y = some (.inr (.inr (x', as, r)))) (hM : zi_Met l M d x' as S v S') (hn0 : n0 ≤ S.2.1) (hk : k0 ≤ S.2.2.1) (hs : s0 ≤ S.2.2.2) (hRc : S'.2.2.1 - k0 ≤ R.cells) (hRs : S'.2.2.2 - s0 ≤ R.slots) (kk : zi_Go p l e R s m args below meth c Q D cy A nL n0 ad0 k0 s0 (pc + 3) L (v.toList ++ r) S') : zi_Go p l e R s m args below meth c Q D cy A nL n0 ad0 k0 s0 pc L st S := by
  obtain ⟨a, bs, ci, fs, rfl, rfl, hy, rfl, hc, rfl, ha, hsm⟩ := zi_inv_inv hex
  obtain ⟨hx, hb, hml, hown, hts, hN, hK, hA, hcls, hnm, hret, hlk, hRf0, hRl0, hSF⟩ := X
  obtain ⟨⟨DM, hDM, hny, hcl, hini, hpl, hcode, hmL, hlink⟩, hsel⟩ := hg
  obtain ⟨hinst, hsel, hq⟩ := hsel DM hDM
  obtain ⟨hle, hnum, hM⟩ := hM
  intro ad ls H locs hag hH hL hst
  have hokS : zi_wfS S := ⟨hH.2.2.2.1, hH.2.2.2.2.1, hH.2.2.2.2.2⟩
  have hst1 : ∀ w ∈ (Value.ref a :: bs), zi_ok S.2.1 w := fun w hw => hst w (by
    rcases List.mem_cons.mp hw with rfl | hw
    · simp
    · simp [hw])
  have hst2 : ∀ w ∈ r, zi_ok S.2.1 w := fun w hw => hst w (by simp [hw])
  have hMM := hM DM D cy ad H.size hDM hokS hst1
  have hrecv : ∃ cell : Cell, H[ad a]? = some cell ∧ cell.vm.isStatics = false ∧ s.vm.findClass (zi_cn (x' / 200)) = some cell.cls := by
    by_cases ha1 : 1000000 ≤ a
    · rw [hH.2.2.2.2.2 a ha1] at hc
      obtain ⟨j, hj, rfl, hx15, -⟩ := zi_ro_obj ha1 hc
      have h15 := vk_recv (hSF.ag hag).1 hj hH.2.2.1
      rw [hx15]
      exact h15
    · have ha : a < S.2.1 := by omega
      have he : (zi_w cy ad S.1 S.2.1)[a]? = some (ad a, .inr (x' / 200, fs.map (zi_v ad))) := by rw [zi_w_get ha, hc]; rfl
      rcases hq with ⟨q, hq, hq1⟩ | hx15
      · have hrecv := va_recv hK hH.1 hq he
        rw [hq1] at hrecv
        exact hrecv
      · obtain ⟨q, hq, -⟩ := hH.1 a _ he
        rw [hx15] at hq
        simp [vwCl] at hq
  have hpS := zi_preS (A := A) (as := .ref a :: bs) hA hK hN (hSF.ag hag) hH
  have hle1 := hle.2.1
  have hle2 := hle.2.2
  have hrm : (zi_R d (S'.2.2.1 - S.2.2.1) (S'.2.2.2 - S.2.2.2)).frames + 1 ≤ R.frames ∧ 8 + (DM.2.2.1 + 11) + (zi_R d (S'.2.2.1 - S.2.2.1) (S'.2.2.2 - S.2.2.2)).locals ≤ R.locals := ⟨hRf, by show 8 + (DM.2.2.1 + 11) + 64 * d ≤ R.locals; omega⟩
  have hsp : (bs.reverse ++ Value.ref a :: r).map (zi_v ad) = (bs.map (zi_v ad)).reverse ++ Value.ref (ad a) :: r.map (zi_v ad) := by simp [zi_v]
  refine zi_after (d := d) (DM := DM) (as := bs) rfl rfl hA hle hnum hn0 hk hs hag hH hL hst2 ((Value.ref a :: bs).map (zi_v ad)).toArray ?_ kk
  rcases hlink with hlink | ⟨host, hlink⟩
  · exact va_runV (As := bs.map (zi_v ad)) (rest := r.map (zi_v ad)) (Ts := zi_tb) ⟨hx, hb, hml, hown, hts⟩ hMM ⟨callB_of y hts (zi_goodIn hcode) rfl rfl rfl (hts _ hini) (hts _ hlink) hpl hrm, hts _ hinst, hts _ hsel⟩ ⟨hpS.1, hrecv, hpS.2⟩ rfl (by rw [List.length_map]; exact hy) hL.1 hsp (lv_room (zi_sm_map hsm)) hd ⟨by omega, by omega⟩
  · exact va_runVN (As := bs.map (zi_v ad)) (rest := r.map (zi_v ad)) (Ts := zi_tb) ⟨hx, hb, hml, hown, hts⟩ hMM ⟨va_cnB y hts (zi_goodIn hcode) rfl rfl rfl (hN _ hlink) (hts _ hini) hpl hrm, hts _ hinst, hts _ hsel⟩ ⟨hpS.1, hrecv, hpS.2⟩ rfl (by rw [List.length_map]; exact hy) hL.1 hsp (lv_room (zi_sm_map hsm)) hd ⟨by omega, by omega⟩
theorem zi_c_I {ix x y x' : Nat} {as r : List Value} (X : zi_X p s m args meth c R D cy A cc nL o nm rt ad0) (hRf : d + 1 ≤ R.frames) (hRl : 64 * (d + 1) ≤ R.locals) (hd : decode cc pc = .ok (.invokespecial ix, 3)) (hg : zi_gI M o ix x y) (hex : zi_inv st S x y = some (.inr (.inr (x', as, r)))) (hM : zi_Met l M d x' as S v S') (hn0 : n0 ≤ S.2.1) (hk : k0 ≤ S.2.2.1) (hs : s0 ≤ S.2.2.2) (hRc : S'.2.2.1 - k0 ≤ R.cells) (hRs : S'.2.2.2 - s0 ≤ R.slots) (kk : zi_Go p l e R s m args below meth c Q D cy A nL n0 ad0 k0 s0 (pc + 3) L (v.toList ++ r) S') : zi_Go p l e R s m args below meth c Q D cy A nL n0 ad0 k0 s0 pc L st S := by
  obtain ⟨a, bs, ci, fs, rfl, rfl, hy, rfl, hc, rfl, ha, hsm⟩ := zi_inv_inv hex
  obtain ⟨hx, hb, hml, hown, hts, hN, hK, hA, hcls, hnm, hret, hlk, hRf0, hRl0, hSF⟩ := X
  obtain ⟨⟨DM, hDM, hny, hcl, hini, hpl, hcode, hmL, hlink⟩, hsel⟩ := hg
  obtain ⟨hinst, hin, hr0⟩ := hsel DM hDM
  obtain ⟨hle, hnum, hM⟩ := hM
  intro ad ls H locs hag hH hL hst
  have hokS : zi_wfS S := ⟨hH.2.2.2.1, hH.2.2.2.2.1, hH.2.2.2.2.2⟩
  have hst1 : ∀ w ∈ (Value.ref a :: bs), zi_ok S.2.1 w := fun w hw => hst w (by
    rcases List.mem_cons.mp hw with rfl | hw
    · simp
    · simp [hw])
  have hst2 : ∀ w ∈ r, zi_ok S.2.1 w := fun w hw => hst w (by simp [hw])
  have hMM := hM DM D cy ad H.size hDM hokS hst1
  rw [hr0] at hMM hcode
  have hpS := zi_preS (A := A) (as := .ref a :: bs) hA hK hN (hSF.ag hag) hH
  have hle1 := hle.2.1
  have hle2 := hle.2.2
  have hrm : (zi_R d (S'.2.2.1 - S.2.2.1) (S'.2.2.2 - S.2.2.2)).frames + 1 ≤ R.frames ∧ 8 + (DM.2.2.1 + 11) + (zi_R d (S'.2.2.1 - S.2.2.1) (S'.2.2.2 - S.2.2.2)).locals ≤ R.locals := ⟨hRf, by show 8 + (DM.2.2.1 + 11) + 64 * d ≤ R.locals; omega⟩
  have hsp : (bs.reverse ++ Value.ref a :: r).map (zi_v ad) = (bs.map (zi_v ad)).reverse ++ Value.ref (ad a) :: r.map (zi_v ad) := by simp [zi_v]
  refine zi_after (d := d) (DM := DM) (as := bs) rfl rfl hA hle hnum hn0 hk hs hag hH hL hst2 ((Value.ref a :: bs).map (zi_v ad)).toArray ?_ kk
  rcases hlink with hlink | ⟨host, hlink⟩
  · exact va_runI (As := bs.map (zi_v ad)) (rest := r.map (zi_v ad)) (Ts := zi_tb) ⟨hx, hb, hml, hown, hts⟩ hMM ⟨callB_of y hts (zi_goodIn hcode) rfl rfl rfl (hts _ hini) (hts _ hlink) hpl hrm, hin, hts _ hinst⟩ hpS rfl (by rw [List.length_map]; exact hy) hL.1 hsp (lv_room (zi_sm_map hsm)) hd ⟨by omega, by omega⟩
  · exact va_runIN (As := bs.map (zi_v ad)) (rest := r.map (zi_v ad)) (Ts := zi_tb) ⟨hx, hb, hml, hown, hts⟩ hMM ⟨va_cnB y hts (zi_goodIn hcode) rfl rfl rfl (hN _ hlink) (hts _ hini) hpl hrm, hin, hts _ hinst⟩ hpS rfl (by rw [List.length_map]; exact hy) hL.1 hsp (lv_room (zi_sm_map hsm)) hd ⟨by omega, by omega⟩
theorem zi_c_S {ix x y x' : Nat} {as r : List Value} (X : zi_X p s m args meth c R D cy A cc nL o nm rt ad0) (hRf : d + 1 ≤ R.frames) (hRl : 64 * (d + 1) ≤ R.locals) (hd : decode cc pc = .ok (.invokestatic ix, 3)) (hg : zi_gS M o ix x y) (hex : zi_invs st x y = some (.inr (.inr (x', as, r)))) (hM : zi_Met l M d x' as S v S') (hn0 : n0 ≤ S.2.1) (hk : k0 ≤ S.2.2.1) (hs : s0 ≤ S.2.2.2) (hRc : S'.2.2.1 - k0 ≤ R.cells) (hRs : S'.2.2.2 - s0 ≤ R.slots) (kk : zi_Go p l e R s m args below meth c Q D cy A nL n0 ad0 k0 s0 (pc + 3) L (v.toList ++ r) S') : zi_Go p l e R s m args below meth c Q D cy A nL n0 ad0 k0 s0 pc L st S := by
  obtain ⟨rfl, hy, rfl, hsm⟩ := zi_invs_inv hex
  obtain ⟨hx, hb, hml, hown, hts, hN, hK, hA, hcls, hnm, hret, hlk, hRf0, hRl0, hSF⟩ := X
  obtain ⟨⟨DM, hDM, hny, hcl, hini, hpl, hcode, hmL, hlink⟩, hsel⟩ := hg
  have hstat := hsel DM hDM
  obtain ⟨hle, hnum, hM⟩ := hM
  intro ad ls H locs hag hH hL hst
  have hokS : zi_wfS S := ⟨hH.2.2.2.1, hH.2.2.2.2.1, hH.2.2.2.2.2⟩
  have hst1 : ∀ w ∈ as, zi_ok S.2.1 w := fun w hw => hst w (by simp [hw])
  have hst2 : ∀ w ∈ r, zi_ok S.2.1 w := fun w hw => hst w (by simp [hw])
  have hMM := hM DM D cy ad H.size hDM hokS hst1
  have hpS := zi_preS (A := A) (as := as) hA hK hN (hSF.ag hag) hH
  have hle1 := hle.2.1
  have hle2 := hle.2.2
  have hrm : (zi_R d (S'.2.2.1 - S.2.2.1) (S'.2.2.2 - S.2.2.2)).frames + 1 ≤ R.frames ∧ 8 + (DM.2.2.1 + 11) + (zi_R d (S'.2.2.1 - S.2.2.1) (S'.2.2.2 - S.2.2.2)).locals ≤ R.locals := ⟨hRf, by show 8 + (DM.2.2.1 + 11) + 64 * d ≤ R.locals; omega⟩
  have hsp : (as.reverse ++ r).map (zi_v ad) = (as.map (zi_v ad)).reverse ++ r.map (zi_v ad) := by simp
  refine zi_after (d := d) (DM := DM) (as := as) rfl rfl hA hle hnum hn0 hk hs hag hH hL hst2 (as.map (zi_v ad)).toArray ?_ kk
  rcases hlink with hlink | ⟨host, hlink⟩
  · exact va_runS (As := as.map (zi_v ad)) (rest := r.map (zi_v ad)) (Ts := zi_tb) ⟨hx, hb, hml, hown, hts⟩ hMM ⟨callB_of y hts (zi_goodIn hcode) rfl rfl rfl (hts _ hini) (hts _ hlink) hpl hrm, hts _ hstat⟩ hpS rfl (by rw [List.length_map]; exact hy) hL.1 hsp (lv_room (zi_sm_map hsm)) hd ⟨by omega, by omega⟩
  · exact va_runSN (As := as.map (zi_v ad)) (rest := r.map (zi_v ad)) (Ts := zi_tb) ⟨hx, hb, hml, hown, hts⟩ hMM ⟨va_cnB y hts (zi_goodIn hcode) rfl rfl rfl (hN _ hlink) (hts _ hini) hpl hrm, hts _ hstat, trivial⟩ hpS rfl (by rw [List.length_map]; exact hy) hL.1 hsp (lv_room (zi_sm_map hsm)) hd ⟨by omega, by omega⟩
end ZAA
theorem zi_inv_nr {st : List Value} {S : zi_S} {x y : Nat} {v : Option Value} : ¬ zi_inv st S x y = some (.inr (.inl v)) := by
  intro h
  unfold zi_inv at h
  split at h
  · split at h
    · obtain ⟨-, h⟩ := zi_cond_inv h
      cases h
    · cases h
  · cases h
theorem zi_invs_nr {st : List Value} {x y : Nat} {v : Option Value} : ¬ zi_invs st x y = some (.inr (.inl v)) := by
  intro h
  unfold zi_invs at h
  split at h
  · obtain ⟨-, h⟩ := zi_cond_inv h
    cases h
  · cases h
section ZAB
variable {p : Program} {l : Launch} {e : Env} {R : Room} {s : State} {m : MethodId} {args : Array Value} {below : List Frame} {meth : Method} {c : Code} {D : va_G} {cy : Nat → ClassId} {cc : ByteArray} {nL o rt d : Nat} {nm : String} {ad0 : Nat → Nat} {pc : Nat} {L : zi_L} {st : List Value} {S0 S : zi_S} {v : Option Value}
/-- a return -/
theorem zi_c_R {q : zi_I} (X : zi_X p s m args meth c R D cy (va_A (zi_w cy ad0 S0.1 S0.2.1) s.heap.size) cc nL o nm rt ad0) (hd : decode cc pc = .ok (q.1, q.2.1)) (hlen : q.2.1 = zi_ln q.1 q.2.1) (hex : zi_ex rt q pc L st S = some (.inr (.inl v))) :
    zi_num v ∧ zi_Go p l e R s m args below meth c (MQ below (zi_Post D cy ad0 S0 v S s.heap.size) args s (S.2.2.1 - S0.2.2.1) (S.2.2.2 - S0.2.2.2) (va_A (zi_w cy ad0 S0.1 S0.2.1) s.heap.size)) D cy (va_A (zi_w cy ad0 S0.1 S0.2.1) s.heap.size) nL S0.2.1 ad0 S0.2.2.1 S0.2.2.2 pc L st S := by
  obtain ⟨i, len, x, y, z⟩ := q
  obtain ⟨hx, hb, hml, hown, hts, hN, hK, hA, hcls, hnm, hret, hlk, hRf, hRl, hSF⟩ := id X
  dsimp only at hd hlen
  have fin : ∀ {ad : Nat → Nat} {H : Heap} {locs : List Loc}, zi_ag S0.2.1 ad0 ad → zi_Hp D cy (va_A (zi_w cy ad0 S0.1 S0.2.1) s.heap.size) ad s.heap H locs S → ∀ t : State, t.heap = H → s.WarmedH t.vm → zi_Post D cy ad0 S0 v S s.heap.size args s (.returned v) t := by
    intro ad H locs hag hH t ht _
    exact ⟨⟨⟨ad, hag, rfl, by rw [ht]; exact hH.1, hH.2.1⟩, hH.2.2.2⟩, hH.2.2.1.F ht⟩
  have key : i = .ireturn ∨ i = .lreturn ∨ i = .return_ := by
    rcases zi_ex_kind (rt := rt) (q := (i, len, x, y, z)) (pc := pc) (L := L) (st := st) (S := S) with h | ⟨ix, h1, h2⟩ | ⟨ix, h1, h0, h2⟩ | ⟨ix, h1, -, -, -, h2⟩ | ⟨h, -⟩
    · obtain ⟨w, hw, -⟩ := h _ hex
      cases hw
    · rw [h2] at hex
      exact absurd hex zi_inv_nr
    · rw [h2] at hex
      exact absurd hex zi_inv_nr
    · rw [h2] at hex
      exact absurd hex zi_invs_nr
    · exact h
  rcases key with rfl | rfl | rfl
  · have hlen : len = 1 := hlen
    subst hlen
    simp only [zi_ex] at hex
    split at hex
    · rename_i w
      cases hex
      refine ⟨trivial, ?_⟩
      intro ad ls H locs hag hH hL hst
      exact W.iret hx hb hret (fin hag hH) hH.2.2.1.2.2 hd hlk
    · rename_i w
      split at hex
      · rename_i hw
        cases hex
        refine ⟨trivial, ?_⟩
        intro ad ls H locs hag hH hL hst
        have hnar : narrow .boolean (.int w) = .int w := by
          rcases hw with rfl | rfl <;> rfl
        exact W.zret hx hb hret hnar (fin hag hH) hH.2.2.1.2.2 hd hlk
      · cases hex
    · rename_i w
      split at hex
      · rename_i hw
        cases hex
        refine ⟨trivial, ?_⟩
        intro ad ls H locs hag hH hL hst
        have hnar : narrow .char (.int w) = .int w := by
          have := pk_nc w
          rw [hw] at this
          exact this
        exact W.zret hx hb hret hnar (fin hag hH) hH.2.2.1.2.2 hd hlk
      · cases hex
    · rename_i w
      split at hex
      · rename_i hw
        cases hex
        refine ⟨trivial, ?_⟩
        intro ad ls H locs hag hH hL hst
        have hnar : narrow .byte (.int w) = .int w := by
          have := pk_nb w
          rw [hw] at this
          exact this
        exact W.zret hx hb hret hnar (fin hag hH) hH.2.2.1.2.2 hd hlk
      · cases hex
    · cases hex
  · have hlen : len = 1 := hlen
    subst hlen
    simp only [zi_ex] at hex
    split at hex
    · rename_i w
      cases hex
      refine ⟨trivial, ?_⟩
      intro ad ls H locs hag hH hL hst
      exact W.lret hx hb hret (fin hag hH) hH.2.2.1.2.2 hd hlk
    · cases hex
  · have hlen : len = 1 := hlen
    subst hlen
    simp only [zi_ex] at hex
    split at hex
    · cases hex
      refine ⟨trivial, ?_⟩
      intro ad ls H locs hag hH hL hst
      exact W.vret hx hb hret (fin hag hH) hH.2.2.1.2.2 hd hlk
    · cases hex
end ZAB
end
section
/-! ===== a run of the abstract machine is a run of the machine ===== -/
/-- the program's tables are right -/
def zi_Prog (P : Nat → Nat → Option zi_I) (M : Nat → Option zi_MI) : Prop := ∀ (x : Nat) (DM : zi_MI), M x = some DM → plainName DM.1.cls = true ∧ DM.1.cls = zi_cn (x / 200) ∧ ∀ (pc : Nat) (q : zi_I), P x pc = some q → decode DM.2.1 pc = .ok (q.1, q.2.1) ∧ q.2.1 = zi_ln q.1 q.2.1 ∧ zi_good M DM.1.name (x / 200) pc q
theorem zi_num_ret {rt pc : Nat} {q : zi_I} {L : zi_L} {st : List Value} {S : zi_S} {v : Option Value} (h : zi_ex rt q pc L st S = some (.inr (.inl v))) : zi_num v := by
  obtain ⟨i, len, x, y, z⟩ := q
  have key : i = .ireturn ∨ i = .lreturn ∨ i = .return_ := by
    rcases zi_ex_kind (rt := rt) (q := (i, len, x, y, z)) (pc := pc) (L := L) (st := st) (S := S) with h' | ⟨ix, h1, h2⟩ | ⟨ix, h1, h0, h2⟩ | ⟨ix, h1, -, -, -, h2⟩ | ⟨h', -⟩
    · obtain ⟨w, hw, -⟩ := h' _ h
      cases hw
    · rw [h2] at h
      exact absurd h zi_inv_nr
    · rw [h2] at h
      exact absurd h zi_inv_nr
    · rw [h2] at h
      exact absurd h zi_invs_nr
    · exact h'
  rcases key with rfl | rfl | rfl <;> simp only [zi_ex] at h <;> (repeat' split at h) <;> first | (cases h; done) | (cases h; trivial)
theorem zi_steps_le {P : Nat → Option zi_I} {rt : Nat} {call : Nat → List Value → zi_S → Option (Option Value × zi_S)} (hc : ∀ x as S v S', call x as S = some (v, S') → zi_le S S' ∧ zi_num v) : ∀ (f pc : Nat) (L : zi_L) (st : List Value) (S : zi_S) (v : Option Value) (S' : zi_S), zi_steps P rt call f pc L st S = some (v, S') → zi_le S S' ∧ zi_num v
  | 0, _, _, _, _, _, _, h => by cases h
  | f + 1, pc, L, st, S, v, S', h => by
    simp only [zi_steps] at h
    split at h
    · cases h
    · rename_i q hq
      split at h
      · cases h
      · rename_i w hw
        have h1 := zi_steps_le hc f _ _ _ _ _ _ h
        rcases zi_ex_kind (rt := rt) (q := q) (pc := pc) (L := L) (st := st) (S := S) with h' | ⟨ix, e1, h2⟩ | ⟨ix, e1, h0, h2⟩ | ⟨ix, e1, -, -, -, h2⟩ | ⟨-, h'⟩
        · obtain ⟨w', hw', hle⟩ := h' _ hw
          cases hw'
          exact ⟨hle.tr h1.1, h1.2⟩
        · rw [h2] at hw
          exact absurd hw zi_inv_nx
        · rw [h2] at hw
          exact absurd hw zi_inv_nx
        · rw [h2] at hw
          exact absurd hw zi_invs_nx
        · obtain ⟨v', hv'⟩ := h' _ hw
          cases hv'
      · rename_i w hw
        cases h
        exact ⟨zi_le.rf, zi_num_ret hw⟩
      · rename_i w hw
        split at h
        · cases h
        · rename_i u hu
          have h1 := zi_steps_le hc f _ _ _ _ _ _ h
          exact ⟨(hc _ _ _ u.1 u.2 hu).1.tr h1.1, h1.2⟩
section ZBB
variable {p : Program} {l : Launch} {e : Env} {R : Room} {s : State} {m : MethodId} {args : Array Value} {below : List Frame} {meth : Method} {c : Code} {D : va_G} {cy : Nat → ClassId} {d x : Nat} {ad0 : Nat → Nat} {S0 S' : zi_S} {M : Nat → Option zi_MI} {v : Option Value} {P : Nat → Nat → Option zi_I} {call : Nat → List Value → zi_S → Option (Option Value × zi_S)} {DM : zi_MI}
theorem zi_go (hP : zi_Prog P M) (hDM : M x = some DM) (hcall : ∀ x as S v S', call x as S = some (v, S') → zi_Met l M d x as S v S') (hRf : d + 1 ≤ R.frames) (hRl : 64 * (d + 1) ≤ R.locals) (hRc : S'.2.2.1 - S0.2.2.1 ≤ R.cells) (hRs : S'.2.2.2 - S0.2.2.2 ≤ R.slots)
    (X : zi_X p s m args meth c R D cy (va_A (zi_w cy ad0 S0.1 S0.2.1) s.heap.size) DM.2.1 DM.2.2.1 (x / 200) DM.1.name DM.2.2.2.1 ad0) : ∀ (f pc : Nat) (L : zi_L) (st : List Value) (S : zi_S), zi_le S0 S → zi_steps (P x) DM.2.2.2.1 call f pc L st S = some (v, S') → zi_Go p l e R s m args below meth c (MQ below (zi_Post D cy ad0 S0 v S' s.heap.size) args s (S'.2.2.1 - S0.2.2.1) (S'.2.2.2 - S0.2.2.2) (va_A (zi_w cy ad0 S0.1 S0.2.1) s.heap.size)) D cy (va_A (zi_w cy ad0 S0.1 S0.2.1) s.heap.size) DM.2.2.1 S0.2.1 ad0 S0.2.2.1 S0.2.2.2 pc L st S
  | 0, _, _, _, _, _, h => by cases h
  | f + 1, pc, L, st, S, hle, h => by
    have hc' : ∀ x as S v S', call x as S = some (v, S') → zi_le S S' ∧ zi_num v := fun x as S v S' hh => ⟨(hcall x as S v S' hh).1, (hcall x as S v S' hh).2.1⟩
    simp only [zi_steps] at h
    split at h
    · cases h
    · rename_i q hq
      obtain ⟨hd, hlen, hg⟩ := (hP x DM hDM).2.2 pc q hq
      split at h
      · cases h
      · rename_i w hw
        obtain ⟨pc', L', st', S1⟩ := w
        have hle1 : zi_le S S1 := by
          rcases zi_ex_kind (rt := DM.2.2.2.1) (q := q) (pc := pc) (L := L) (st := st) (S := S) with h' | ⟨ix, e1, h2⟩ | ⟨ix, e1, h0, h2⟩ | ⟨ix, e1, -, -, -, h2⟩ | ⟨-, h'⟩
          · obtain ⟨w', hw', hle⟩ := h' _ hw
            cases hw'
            exact hle
          · rw [h2] at hw
            exact absurd hw zi_inv_nx
          · rw [h2] at hw
            exact absurd hw zi_inv_nx
          · rw [h2] at hw
            exact absurd hw zi_invs_nx
          · obtain ⟨v', hv'⟩ := h' _ hw
            cases hv'
        have h2 := zi_steps_le hc' f _ _ _ _ _ _ h
        have hle2 := h2.1.2
        exact zi_step X hd hlen hg hw hle.1 hle.2.1 hle.2.2 (Nat.le_trans (Nat.sub_le_sub_right hle2.1 _) hRc) (Nat.le_trans (Nat.sub_le_sub_right hle2.2 _) hRs) (zi_go hP hDM hcall hRf hRl hRc hRs X f pc' L' st' S1 (hle.tr hle1) h)
      · rename_i w hw
        cases h
        exact (zi_c_R X hd hlen hw).2
      · rename_i w hw
        obtain ⟨x', as, r⟩ := w
        split at h
        · cases h
        · rename_i u hu
          obtain ⟨v1, S1⟩ := u
          have hM := hcall _ _ _ _ _ hu
          have h2 := zi_steps_le hc' f _ _ _ _ _ _ h
          have hle2 := h2.1.2
          have kk := zi_go hP hDM hcall hRf hRl hRc hRs X f (pc + 3) L (v1.toList ++ r) S1 (hle.tr hM.1) h
          have b1 := Nat.le_trans (Nat.sub_le_sub_right hle2.1 S0.2.2.1) hRc
          have b2 := Nat.le_trans (Nat.sub_le_sub_right hle2.2 S0.2.2.2) hRs
          obtain ⟨i, len, x1, y1, z1⟩ := q
          dsimp only at hd hlen
          rcases zi_ex_kind (rt := DM.2.2.2.1) (q := (i, len, x1, y1, z1)) (pc := pc) (L := L) (st := st) (S := S) with h' | ⟨ix, e1, h2⟩ | ⟨ix, e1, h0, h2⟩ | ⟨ix, e1, n1, n2, n3, h2⟩ | ⟨-, h'⟩
          · obtain ⟨w', hw', -⟩ := h' _ hw
            cases hw'
          · rw [h2] at hw
            have e1 : i = .invokevirtual ix := e1
            subst e1
            have hlen : len = 3 := hlen
            subst hlen
            exact zi_c_V X hRf hRl hd hg hw hM hle.1 hle.2.1 hle.2.2 b1 b2 kk
          · rw [h2] at hw
            have e1 : i = .invokespecial ix := e1
            subst e1
            have hlen : len = 3 := hlen
            subst hlen
            have h0 : ¬ x1 = 9000 := h0
            simp only [zi_good, if_neg h0] at hg
            exact zi_c_I X hRf hRl hd hg hw hM hle.1 hle.2.1 hle.2.2 b1 b2 kk
          · rw [h2] at hw
            have e1 : i = .invokestatic ix := e1
            subst e1
            have hlen : len = 3 := hlen
            subst hlen
            have n1 : ¬ x1 = 9001 := n1
            have n2 : ¬ x1 = 9002 := n2
            have n3 : ¬ x1 = 9003 := n3
            simp only [zi_good, if_neg n1, if_neg n2, if_neg n3] at hg
            exact zi_c_S X hRf hRl hd hg hw hM hle.1 hle.2.1 hle.2.2 b1 b2 kk
          · obtain ⟨v', hv'⟩ := h' _ hw
            cases hv'
end ZBB
/-! the locals with which a method begins -/
theorem zi_ent_ld : ∀ (as : List Value) (i k : Nat) (w : Value), zi_ld (zi_ent as) k = some w → (i + k, w) ∈ lv_args i as
  | [], i, k, w, h => by simp [zi_ent, zi_ld] at h
  | a :: as, i, k, w, h => by
    have two : a.category = 2 → zi_ent (a :: as) = some a :: none :: zi_ent as → (i + k, w) ∈ lv_args i (a :: as) := by
      intro hc e
      rw [e] at h
      simp only [lv_args, if_pos hc]
      match k, h with
      | 0, h =>
        simp [zi_ld] at h
        subst h
        simp
      | 1, h => simp [zi_ld] at h
      | k + 2, h =>
        have h' : zi_ld (zi_ent as) k = some w := by simpa [zi_ld] using h
        have := zi_ent_ld as (i + 2) k w h'
        rw [show i + 2 + k = i + (k + 2) by omega] at this
        exact List.mem_cons_of_mem _ this
    have one : ¬ a.category = 2 → zi_ent (a :: as) = some a :: zi_ent as → (i + k, w) ∈ lv_args i (a :: as) := by
      intro hc e
      rw [e] at h
      simp only [lv_args, if_neg hc]
      match k, h with
      | 0, h =>
        simp [zi_ld] at h
        subst h
        simp
      | k + 1, h =>
        have h' : zi_ld (zi_ent as) k = some w := by simpa [zi_ld] using h
        have := zi_ent_ld as (i + 1) k w h'
        rw [show i + 1 + k = i + (k + 1) by omega] at this
        exact List.mem_cons_of_mem _ this
    cases a with
    | long v => exact two rfl rfl
    | double v => exact two rfl rfl
    | _ => exact one (by simp [Value.category]) rfl
theorem zi_args_map (ad : Nat → Nat) : ∀ (as : List Value) (i : Nat), lv_args i (as.map (zi_v ad)) = (lv_args i as).map (fun q => (q.1, zi_v ad q.2))
  | [], _ => rfl
  | a :: as, i => by
    simp only [List.map_cons, lv_args, zi_v_cat]
    rw [zi_args_map ad as]
theorem zi_sl_len (ad : Nat → Nat) : ∀ (as : List Value), (lg_sl (as.map (zi_v ad))).length = (zi_ent as).length
  | [] => rfl
  | a :: as => by
    have h := zi_sl_len ad as
    simp only [lg_sl, List.map_cons, List.flatMap_cons] at h ⊢
    rw [List.length_append, h]
    cases a <;> simp [zi_ent, zi_v, Value.category] <;> omega
theorem zi_ent_ok {n : Nat} : ∀ {as : List Value}, (∀ w ∈ as, zi_ok n w) → ∀ k w, zi_ld (zi_ent as) k = some w → zi_ok n w := by
  intro as h k w hk
  have h1 := zi_ent_ld as 0 k w hk
  have : ∀ (as : List Value) (i j : Nat) (w : Value), (j, w) ∈ lv_args i as → w ∈ as := by
    intro as
    induction as with
    | nil => intro i j w h; cases h
    | cons a as ih =>
      intro i j w h
      simp only [lv_args] at h
      rcases List.mem_cons.mp h with h | h
      · cases h; exact List.mem_cons_self
      · exact List.mem_cons_of_mem _ (ih _ _ _ h)
  exact h w (this as 0 _ w h1)
theorem zi_pad_ld {L : zi_L} {n k : Nat} {w : Value} (h : zi_ld (L ++ List.replicate n none) k = some w) : zi_ld L k = some w := by
  unfold zi_ld at h
  split at h
  · rename_i v hv
    cases h
    rcases Nat.lt_or_ge k L.length with hk | hk
    · rw [List.getElem?_append_left hk] at hv
      simp [zi_ld, hv]
    · rw [List.getElem?_append_right hk] at hv
      have := List.eq_of_mem_replicate (List.mem_of_getElem? hv)
      cases this
  · cases h
theorem zi_entry {ad : Nat → Nat} {as : List Value} {n mL : Nat} (hl : (zi_ent as).length ≤ mL) (hok : ∀ w ∈ as, zi_ok n w) : zi_Lv ad ((lg_sl (as.map (zi_v ad)) ++ List.replicate (mL - (lg_sl (as.map (zi_v ad))).length) Slot.unset).toArray) mL n (zi_ent as ++ List.replicate (mL - (zi_ent as).length) none) := by
  have h := lv_entry (as.map (zi_v ad)) (n := mL) (by rw [zi_sl_len]; exact hl)
  refine ⟨h.1, by simp; omega, h.2.1, fun k w hk => ?_⟩
  have h1 := zi_pad_ld hk
  have h2 := zi_ent_ld as 0 k w h1
  refine ⟨h.2.2 (k, zi_v ad w) ?_, zi_ent_ok hok k w h1⟩
  rw [zi_args_map]
  rw [Nat.zero_add] at h2
  exact List.mem_map.mpr ⟨(k, w), h2, rfl⟩
/-- SOUND: what the abstract machine answers, the method does -/
theorem zi_sound {l : Launch} {P : Nat → Nat → Option zi_I} {M : Nat → Option zi_MI} {pr : Nat → List Value → zi_S → Option (Option Value × zi_S)} {f : Nat} (hP : zi_Prog P M) (hcls : zi_cls) (hpr : ∀ d x as S v S', pr x as S = some (v, S') → zi_Met l M (d + 1) x as S v S') : ∀ (d x : Nat) (as : List Value) (S : zi_S) (v : Option Value) (S' : zi_S), zi_call P M pr f d x as S = some (v, S') → zi_Met l M d x as S v S'
  | 0, _, _, _, _, _, h => by cases h
  | d + 1, x, as, S, v, S', h => by
    simp only [zi_call] at h
    split at h
    · rename_i r hr
      cases h
      exact hpr d x as S v S' hr
    · split at h
      · cases h
      · rename_i DM hDM
        obtain ⟨hlen, h⟩ := zi_cond_inv h
        have hlen := Nat.le_of_ble_eq_true hlen
        have ih := zi_sound (l := l) (pr := pr) (f := f) hP hcls hpr d
        have hle := zi_steps_le (fun x as S v S' hh => ⟨(ih x as S v S' hh).1, (ih x as S v S' hh).2.1⟩) _ _ _ _ _ _ _ h
        refine ⟨hle.1, hle.2, ?_⟩
        intro DM' D cy ad sz hDM' hwf hok
        rw [hDM] at hDM'
        cases hDM'
        refine Met.ofW (cc := DM.2.1) (maxL := DM.2.2.1) (ret := zi_rt DM.2.2.2.1) (hP x DM hDM).1 rfl ?_
        intro p e s m args below meth c s₁ B hml hv
        obtain ⟨rfl, hsz, hPp, hK, hD0, hN, hSF⟩ := hv
        subst hsz
        have hts := atoms_spec (ws := Cond.code DM.1 DM.2.1 DM.2.2.1 (zi_rt DM.2.2.2.1) :: zi_tb) B.pre
        have hown : s.vm.findClass (zi_cn (x / 200)) = some m.cls := by
          rw [← (hP x DM hDM).2.1]
          exact findClass_of_methodNamed B.named
        have hname : meth.name = DM.1.name := (name_of_methodNamed B.named B.method).1
        rw [lg_entry_eq]
        have X : zi_X p s m (as.map (zi_v ad)).toArray meth c (headSpec (Cond.code DM.1 DM.2.1 DM.2.2.1 (zi_rt DM.2.2.2.1) :: zi_tb) (zi_R (d + 1) (S'.2.2.1 - S.2.2.1) (S'.2.2.2 - S.2.2.2))).room D cy (va_A (zi_w cy ad S.1 S.2.1) s.heap.size) DM.2.1 DM.2.2.1 (x / 200) DM.1.name DM.2.2.2.1 ad :=
          ⟨B.exec, B.bytes, hml, hown, fun w hw => hts w (List.mem_cons_of_mem _ hw), hN, hK, fun q h => Or.inr h, hcls, hname, B.returns, B.notSynchronized, by show 1 ≤ d + 1; omega, by show 64 ≤ 64 * (d + 1); omega, hSF⟩
        have G := zi_go (e := e) (below := below) (R := (headSpec (Cond.code DM.1 DM.2.1 DM.2.2.1 (zi_rt DM.2.2.2.1) :: zi_tb) (zi_R (d + 1) (S'.2.2.1 - S.2.2.1) (S'.2.2.2 - S.2.2.2))).room) hP hDM ih (by show d + 1 ≤ d + 1; omega) (by show 64 * (d + 1) ≤ 64 * (d + 1); omega) (Nat.le_refl _) (Nat.le_refl _) X f 0 _ _ S zi_le.rf h
        have g := G ad _ s.heap [] zi_ag.rf ⟨hPp, hD0.self, va_S.rf, hwf.1, hwf.2.1, hwf.2.2⟩ (zi_entry hlen hok) (fun w hw => by cases hw)
        rw [Nat.sub_self, Nat.sub_self] at g
        exact g
end
