section
-- ===== PART A: goes FIRST, ahead of the names: the tables' words, and 'selects' of the private methods out of them =====
/-- a private method of a class that the tables say can be made, by its rows of tables_1 -/
def lw_okq (q : MethodName × Nat) : Prop := (q.1.cls ≠ "java/lang/invoke/MethodHandle" ∧ q.1.cls ≠ "java/lang/invoke/VarHandle") ∧ Cond.instantiable q.1.cls q.2 ∈ tables_1 ∧ Cond.privateMethod q.1 ∈ tables_1 ∧ Cond.instanceMethod q.1 ∈ tables_1
theorem lw_p0 : lw_okq (⟨"LocksBySong", "tellOf", "(II)I"⟩, 15) := ⟨⟨by decide +kernel, by decide +kernel⟩, List.mem_of_getElem? (i := 27) (by decide +kernel), List.mem_of_getElem? (i := 394) (by decide +kernel), List.mem_of_getElem? (i := 395) (by decide +kernel)⟩
theorem lw_p1 : lw_okq (⟨"LocksBySong", "readLines", "(I)I"⟩, 15) := ⟨⟨by decide +kernel, by decide +kernel⟩, List.mem_of_getElem? (i := 27) (by decide +kernel), List.mem_of_getElem? (i := 409) (by decide +kernel), List.mem_of_getElem? (i := 410) (by decide +kernel)⟩
theorem lw_p2 : lw_okq (⟨"LocksBySong$Canal", "readLock", "(ILLocksBySong$Script;)Z"⟩, 11) := ⟨⟨by decide +kernel, by decide +kernel⟩, List.mem_of_getElem? (i := 69) (by decide +kernel), List.mem_of_getElem? (i := 425) (by decide +kernel), List.mem_of_getElem? (i := 426) (by decide +kernel)⟩
theorem lw_p3 : lw_okq (⟨"LocksBySong$Canal", "readSinger", "(ILLocksBySong$Script;LLocksBySong$Moment;)Z"⟩, 11) := ⟨⟨by decide +kernel, by decide +kernel⟩, List.mem_of_getElem? (i := 69) (by decide +kernel), List.mem_of_getElem? (i := 441) (by decide +kernel), List.mem_of_getElem? (i := 442) (by decide +kernel)⟩
theorem lw_p4 : lw_okq (⟨"LocksBySong$Canal", "readPlace", "(LLocksBySong$Script;)I"⟩, 11) := ⟨⟨by decide +kernel, by decide +kernel⟩, List.mem_of_getElem? (i := 69) (by decide +kernel), List.mem_of_getElem? (i := 445) (by decide +kernel), List.mem_of_getElem? (i := 446) (by decide +kernel)⟩
theorem lw_p5 : lw_okq (⟨"LocksBySong$Canal", "readBarge", "(ILLocksBySong$Script;LLocksBySong$Moment;)Z"⟩, 11) := ⟨⟨by decide +kernel, by decide +kernel⟩, List.mem_of_getElem? (i := 69) (by decide +kernel), List.mem_of_getElem? (i := 454) (by decide +kernel), List.mem_of_getElem? (i := 455) (by decide +kernel)⟩
theorem lw_p6 : lw_okq (⟨"LocksBySong$Rule", "comparison", "(LLocksBySong$Script;I)Z"⟩, 6) := ⟨⟨by decide +kernel, by decide +kernel⟩, List.mem_of_getElem? (i := 75) (by decide +kernel), List.mem_of_getElem? (i := 493) (by decide +kernel), List.mem_of_getElem? (i := 494) (by decide +kernel)⟩
theorem lw_p7 : lw_okq (⟨"LocksBySong$Rule", "sum", "(LLocksBySong$Script;I)Z"⟩, 6) := ⟨⟨by decide +kernel, by decide +kernel⟩, List.mem_of_getElem? (i := 75) (by decide +kernel), List.mem_of_getElem? (i := 497) (by decide +kernel), List.mem_of_getElem? (i := 498) (by decide +kernel)⟩
theorem lw_p8 : lw_okq (⟨"LocksBySong$Rule", "product", "(LLocksBySong$Script;I)Z"⟩, 6) := ⟨⟨by decide +kernel, by decide +kernel⟩, List.mem_of_getElem? (i := 75) (by decide +kernel), List.mem_of_getElem? (i := 501) (by decide +kernel), List.mem_of_getElem? (i := 502) (by decide +kernel)⟩
theorem lw_p9 : lw_okq (⟨"LocksBySong$Rule", "negated", "(LLocksBySong$Script;I)Z"⟩, 6) := ⟨⟨by decide +kernel, by decide +kernel⟩, List.mem_of_getElem? (i := 75) (by decide +kernel), List.mem_of_getElem? (i := 505) (by decide +kernel), List.mem_of_getElem? (i := 506) (by decide +kernel)⟩
theorem lw_p10 : lw_okq (⟨"LocksBySong$Rule", "thing", "(LLocksBySong$Script;I)Z"⟩, 6) := ⟨⟨by decide +kernel, by decide +kernel⟩, List.mem_of_getElem? (i := 75) (by decide +kernel), List.mem_of_getElem? (i := 510) (by decide +kernel), List.mem_of_getElem? (i := 511) (by decide +kernel)⟩
theorem lw_p11 : lw_okq (⟨"LocksBySong$Rule", "emit", "(I)Z"⟩, 6) := ⟨⟨by decide +kernel, by decide +kernel⟩, List.mem_of_getElem? (i := 75) (by decide +kernel), List.mem_of_getElem? (i := 515) (by decide +kernel), List.mem_of_getElem? (i := 516) (by decide +kernel)⟩
theorem lw_p12 : lw_okq (⟨"LocksBySong", "takeOn", "(II)I"⟩, 15) := ⟨⟨by decide +kernel, by decide +kernel⟩, List.mem_of_getElem? (i := 27) (by decide +kernel), List.mem_of_getElem? (i := 638) (by decide +kernel), List.mem_of_getElem? (i := 639) (by decide +kernel)⟩
theorem lw_p13 : lw_okq (⟨"LocksBySong", "remember", "(I)I"⟩, 15) := ⟨⟨by decide +kernel, by decide +kernel⟩, List.mem_of_getElem? (i := 27) (by decide +kernel), List.mem_of_getElem? (i := 650) (by decide +kernel), List.mem_of_getElem? (i := 651) (by decide +kernel)⟩
theorem lw_p14 : lw_okq (⟨"LocksBySong", "letGo", "(I)I"⟩, 15) := ⟨⟨by decide +kernel, by decide +kernel⟩, List.mem_of_getElem? (i := 27) (by decide +kernel), List.mem_of_getElem? (i := 663) (by decide +kernel), List.mem_of_getElem? (i := 664) (by decide +kernel)⟩
theorem lw_p15 : lw_okq (⟨"LocksBySong$Voyage", "hindrance", "(LLocksBySong$Moment;II)I"⟩, 5) := ⟨⟨by decide +kernel, by decide +kernel⟩, List.mem_of_getElem? (i := 218) (by decide +kernel), List.mem_of_getElem? (i := 679) (by decide +kernel), List.mem_of_getElem? (i := 680) (by decide +kernel)⟩
def lw_privs_1 : List (MethodName × Nat) := [(⟨"LocksBySong", "tellOf", "(II)I"⟩, 15), (⟨"LocksBySong", "readLines", "(I)I"⟩, 15), (⟨"LocksBySong$Canal", "readLock", "(ILLocksBySong$Script;)Z"⟩, 11), (⟨"LocksBySong$Canal", "readSinger", "(ILLocksBySong$Script;LLocksBySong$Moment;)Z"⟩, 11), (⟨"LocksBySong$Canal", "readPlace", "(LLocksBySong$Script;)I"⟩, 11), (⟨"LocksBySong$Canal", "readBarge", "(ILLocksBySong$Script;LLocksBySong$Moment;)Z"⟩, 11), (⟨"LocksBySong$Rule", "comparison", "(LLocksBySong$Script;I)Z"⟩, 6), (⟨"LocksBySong$Rule", "sum", "(LLocksBySong$Script;I)Z"⟩, 6), (⟨"LocksBySong$Rule", "product", "(LLocksBySong$Script;I)Z"⟩, 6), (⟨"LocksBySong$Rule", "negated", "(LLocksBySong$Script;I)Z"⟩, 6), (⟨"LocksBySong$Rule", "thing", "(LLocksBySong$Script;I)Z"⟩, 6), (⟨"LocksBySong$Rule", "emit", "(I)Z"⟩, 6), (⟨"LocksBySong", "takeOn", "(II)I"⟩, 15), (⟨"LocksBySong", "remember", "(I)I"⟩, 15), (⟨"LocksBySong", "letGo", "(I)I"⟩, 15), (⟨"LocksBySong$Voyage", "hindrance", "(LLocksBySong$Moment;II)I"⟩, 5)]
theorem lw_r1 : ∀ q ∈ lw_privs_1, lw_okq q := List.forall_mem_cons.mpr ⟨lw_p0, List.forall_mem_cons.mpr ⟨lw_p1, List.forall_mem_cons.mpr ⟨lw_p2, List.forall_mem_cons.mpr ⟨lw_p3, List.forall_mem_cons.mpr ⟨lw_p4, List.forall_mem_cons.mpr ⟨lw_p5, List.forall_mem_cons.mpr ⟨lw_p6, List.forall_mem_cons.mpr ⟨lw_p7, List.forall_mem_cons.mpr ⟨lw_p8, List.forall_mem_cons.mpr ⟨lw_p9, List.forall_mem_cons.mpr ⟨lw_p10, List.forall_mem_cons.mpr ⟨lw_p11, List.forall_mem_cons.mpr ⟨lw_p12, List.forall_mem_cons.mpr ⟨lw_p13, List.forall_mem_cons.mpr ⟨lw_p14, List.forall_mem_cons.mpr ⟨lw_p15, fun _ h => absurd h List.not_mem_nil⟩⟩⟩⟩⟩⟩⟩⟩⟩⟩⟩⟩⟩⟩⟩⟩
theorem lw_p16 : lw_okq (⟨"LocksBySong$Choir", "firstFor", "(III)I"⟩, 3) := ⟨⟨by decide +kernel, by decide +kernel⟩, List.mem_of_getElem? (i := 200) (by decide +kernel), List.mem_of_getElem? (i := 721) (by decide +kernel), List.mem_of_getElem? (i := 722) (by decide +kernel)⟩
theorem lw_p17 : lw_okq (⟨"LocksBySong$Voyage", "minutesFor", "(LLocksBySong$Moment;III)I"⟩, 5) := ⟨⟨by decide +kernel, by decide +kernel⟩, List.mem_of_getElem? (i := 218) (by decide +kernel), List.mem_of_getElem? (i := 732) (by decide +kernel), List.mem_of_getElem? (i := 733) (by decide +kernel)⟩
theorem lw_p18 : lw_okq (⟨"LocksBySong$Rule", "worth", "()I"⟩, 6) := ⟨⟨by decide +kernel, by decide +kernel⟩, List.mem_of_getElem? (i := 75) (by decide +kernel), List.mem_of_getElem? (i := 749) (by decide +kernel), List.mem_of_getElem? (i := 750) (by decide +kernel)⟩
theorem lw_p19 : lw_okq (⟨"LocksBySong", "tellSong", "()V"⟩, 15) := ⟨⟨by decide +kernel, by decide +kernel⟩, List.mem_of_getElem? (i := 27) (by decide +kernel), List.mem_of_getElem? (i := 763) (by decide +kernel), List.mem_of_getElem? (i := 764) (by decide +kernel)⟩
theorem lw_p20 : lw_okq (⟨"LocksBySong", "takeRest", "(I)I"⟩, 15) := ⟨⟨by decide +kernel, by decide +kernel⟩, List.mem_of_getElem? (i := 27) (by decide +kernel), List.mem_of_getElem? (i := 779) (by decide +kernel), List.mem_of_getElem? (i := 780) (by decide +kernel)⟩
theorem lw_p21 : lw_okq (⟨"LocksBySong", "readActs", "()I"⟩, 15) := ⟨⟨by decide +kernel, by decide +kernel⟩, List.mem_of_getElem? (i := 27) (by decide +kernel), List.mem_of_getElem? (i := 792) (by decide +kernel), List.mem_of_getElem? (i := 793) (by decide +kernel)⟩
theorem lw_p22 : lw_okq (⟨"LocksBySong", "readAct", "()I"⟩, 15) := ⟨⟨by decide +kernel, by decide +kernel⟩, List.mem_of_getElem? (i := 27) (by decide +kernel), List.mem_of_getElem? (i := 796) (by decide +kernel), List.mem_of_getElem? (i := 797) (by decide +kernel)⟩
theorem lw_p23 : lw_okq (⟨"LocksBySong", "perform", "(I)I"⟩, 15) := ⟨⟨by decide +kernel, by decide +kernel⟩, List.mem_of_getElem? (i := 27) (by decide +kernel), List.mem_of_getElem? (i := 803) (by decide +kernel), List.mem_of_getElem? (i := 804) (by decide +kernel)⟩
theorem lw_p24 : lw_okq (⟨"LocksBySong", "singsShifted", "(III)Z"⟩, 15) := ⟨⟨by decide +kernel, by decide +kernel⟩, List.mem_of_getElem? (i := 27) (by decide +kernel), List.mem_of_getElem? (i := 857) (by decide +kernel), List.mem_of_getElem? (i := 858) (by decide +kernel)⟩
theorem lw_p25 : lw_okq (⟨"LocksBySong$Hiring", "isBetter", "(II)Z"⟩, 3) := ⟨⟨by decide +kernel, by decide +kernel⟩, List.mem_of_getElem? (i := 241) (by decide +kernel), List.mem_of_getElem? (i := 883) (by decide +kernel), List.mem_of_getElem? (i := 884) (by decide +kernel)⟩
theorem lw_p26 : lw_okq (⟨"LocksBySong", "tellHired", "(I)I"⟩, 15) := ⟨⟨by decide +kernel, by decide +kernel⟩, List.mem_of_getElem? (i := 27) (by decide +kernel), List.mem_of_getElem? (i := 892) (by decide +kernel), List.mem_of_getElem? (i := 893) (by decide +kernel)⟩
theorem lw_p27 : lw_okq (⟨"LocksBySong$Waiting", "findCosts", "()V"⟩, 5) := ⟨⟨by decide +kernel, by decide +kernel⟩, List.mem_of_getElem? (i := 283) (by decide +kernel), List.mem_of_getElem? (i := 942) (by decide +kernel), List.mem_of_getElem? (i := 943) (by decide +kernel)⟩
theorem lw_p28 : lw_okq (⟨"LocksBySong$Waiting", "costNext", "(III)I"⟩, 5) := ⟨⟨by decide +kernel, by decide +kernel⟩, List.mem_of_getElem? (i := 283) (by decide +kernel), List.mem_of_getElem? (i := 949) (by decide +kernel), List.mem_of_getElem? (i := 950) (by decide +kernel)⟩
theorem lw_p29 : lw_okq (⟨"LocksBySong$Waiting", "downCost", "(III)I"⟩, 5) := ⟨⟨by decide +kernel, by decide +kernel⟩, List.mem_of_getElem? (i := 283) (by decide +kernel), List.mem_of_getElem? (i := 953) (by decide +kernel), List.mem_of_getElem? (i := 954) (by decide +kernel)⟩
theorem lw_p30 : lw_okq (⟨"LocksBySong$Waiting", "costAfter", "(III)I"⟩, 5) := ⟨⟨by decide +kernel, by decide +kernel⟩, List.mem_of_getElem? (i := 283) (by decide +kernel), List.mem_of_getElem? (i := 957) (by decide +kernel), List.mem_of_getElem? (i := 958) (by decide +kernel)⟩
theorem lw_p31 : lw_okq (⟨"LocksBySong$Waiting", "upCost", "(III)I"⟩, 5) := ⟨⟨by decide +kernel, by decide +kernel⟩, List.mem_of_getElem? (i := 283) (by decide +kernel), List.mem_of_getElem? (i := 961) (by decide +kernel), List.mem_of_getElem? (i := 962) (by decide +kernel)⟩
def lw_privs_2 : List (MethodName × Nat) := [(⟨"LocksBySong$Choir", "firstFor", "(III)I"⟩, 3), (⟨"LocksBySong$Voyage", "minutesFor", "(LLocksBySong$Moment;III)I"⟩, 5), (⟨"LocksBySong$Rule", "worth", "()I"⟩, 6), (⟨"LocksBySong", "tellSong", "()V"⟩, 15), (⟨"LocksBySong", "takeRest", "(I)I"⟩, 15), (⟨"LocksBySong", "readActs", "()I"⟩, 15), (⟨"LocksBySong", "readAct", "()I"⟩, 15), (⟨"LocksBySong", "perform", "(I)I"⟩, 15), (⟨"LocksBySong", "singsShifted", "(III)Z"⟩, 15), (⟨"LocksBySong$Hiring", "isBetter", "(II)Z"⟩, 3), (⟨"LocksBySong", "tellHired", "(I)I"⟩, 15), (⟨"LocksBySong$Waiting", "findCosts", "()V"⟩, 5), (⟨"LocksBySong$Waiting", "costNext", "(III)I"⟩, 5), (⟨"LocksBySong$Waiting", "downCost", "(III)I"⟩, 5), (⟨"LocksBySong$Waiting", "costAfter", "(III)I"⟩, 5), (⟨"LocksBySong$Waiting", "upCost", "(III)I"⟩, 5)]
theorem lw_r2 : ∀ q ∈ lw_privs_2, lw_okq q := List.forall_mem_cons.mpr ⟨lw_p16, List.forall_mem_cons.mpr ⟨lw_p17, List.forall_mem_cons.mpr ⟨lw_p18, List.forall_mem_cons.mpr ⟨lw_p19, List.forall_mem_cons.mpr ⟨lw_p20, List.forall_mem_cons.mpr ⟨lw_p21, List.forall_mem_cons.mpr ⟨lw_p22, List.forall_mem_cons.mpr ⟨lw_p23, List.forall_mem_cons.mpr ⟨lw_p24, List.forall_mem_cons.mpr ⟨lw_p25, List.forall_mem_cons.mpr ⟨lw_p26, List.forall_mem_cons.mpr ⟨lw_p27, List.forall_mem_cons.mpr ⟨lw_p28, List.forall_mem_cons.mpr ⟨lw_p29, List.forall_mem_cons.mpr ⟨lw_p30, List.forall_mem_cons.mpr ⟨lw_p31, fun _ h => absurd h List.not_mem_nil⟩⟩⟩⟩⟩⟩⟩⟩⟩⟩⟩⟩⟩⟩⟩⟩
theorem lw_p32 : lw_okq (⟨"LocksBySong$Waiting", "goesUpNext", "(III)Z"⟩, 5) := ⟨⟨by decide +kernel, by decide +kernel⟩, List.mem_of_getElem? (i := 283) (by decide +kernel), List.mem_of_getElem? (i := 967) (by decide +kernel), List.mem_of_getElem? (i := 968) (by decide +kernel)⟩
theorem lw_p33 : lw_okq (⟨"LocksBySong$Voyage", "chordAhead", "(LLocksBySong$Moment;II)I"⟩, 5) := ⟨⟨by decide +kernel, by decide +kernel⟩, List.mem_of_getElem? (i := 218) (by decide +kernel), List.mem_of_getElem? (i := 980) (by decide +kernel), List.mem_of_getElem? (i := 981) (by decide +kernel)⟩
theorem lw_p34 : lw_okq (⟨"LocksBySong$Night", "hasInRange", "(II)Z"⟩, 6) := ⟨⟨by decide +kernel, by decide +kernel⟩, List.mem_of_getElem? (i := 258) (by decide +kernel), List.mem_of_getElem? (i := 1028) (by decide +kernel), List.mem_of_getElem? (i := 1029) (by decide +kernel)⟩
theorem lw_p35 : lw_okq (⟨"LocksBySong$Night", "findPairs", "(I)V"⟩, 6) := ⟨⟨by decide +kernel, by decide +kernel⟩, List.mem_of_getElem? (i := 258) (by decide +kernel), List.mem_of_getElem? (i := 1042) (by decide +kernel), List.mem_of_getElem? (i := 1043) (by decide +kernel)⟩
theorem lw_p36 : lw_okq (⟨"LocksBySong$Night", "markPair", "(III)V"⟩, 6) := ⟨⟨by decide +kernel, by decide +kernel⟩, List.mem_of_getElem? (i := 258) (by decide +kernel), List.mem_of_getElem? (i := 1046) (by decide +kernel), List.mem_of_getElem? (i := 1047) (by decide +kernel)⟩
theorem lw_p37 : lw_okq (⟨"LocksBySong$Night", "allApart", "()Z"⟩, 6) := ⟨⟨by decide +kernel, by decide +kernel⟩, List.mem_of_getElem? (i := 258) (by decide +kernel), List.mem_of_getElem? (i := 1050) (by decide +kernel), List.mem_of_getElem? (i := 1051) (by decide +kernel)⟩
theorem lw_p38 : lw_okq (⟨"LocksBySong$Night", "partingBy", "(III)I"⟩, 6) := ⟨⟨by decide +kernel, by decide +kernel⟩, List.mem_of_getElem? (i := 258) (by decide +kernel), List.mem_of_getElem? (i := 1054) (by decide +kernel), List.mem_of_getElem? (i := 1055) (by decide +kernel)⟩
theorem lw_p39 : lw_okq (⟨"LocksBySong", "tellFirstPair", "(III)V"⟩, 15) := ⟨⟨by decide +kernel, by decide +kernel⟩, List.mem_of_getElem? (i := 27) (by decide +kernel), List.mem_of_getElem? (i := 1087) (by decide +kernel), List.mem_of_getElem? (i := 1088) (by decide +kernel)⟩
theorem lw_p40 : lw_okq (⟨"java/lang/Throwable", "fillInStackTrace", "(I)Ljava/lang/Throwable;"⟩, 6) := ⟨⟨by decide +kernel, by decide +kernel⟩, List.mem_of_getElem? (i := 1164) (by decide +kernel), List.mem_of_getElem? (i := 1162) (by decide +kernel), List.mem_of_getElem? (i := 1163) (by decide +kernel)⟩
theorem lw_p41 : lw_okq (⟨"LocksBySongModel", "readsLines", "(II)I"⟩, 53) := ⟨⟨by decide +kernel, by decide +kernel⟩, List.mem_of_getElem? (i := 1214) (by decide +kernel), List.mem_of_getElem? (i := 1399) (by decide +kernel), List.mem_of_getElem? (i := 1400) (by decide +kernel)⟩
theorem lw_p42 : lw_okq (⟨"LocksBySongModel", "begins", "(I)I"⟩, 53) := ⟨⟨by decide +kernel, by decide +kernel⟩, List.mem_of_getElem? (i := 1214) (by decide +kernel), List.mem_of_getElem? (i := 1403) (by decide +kernel), List.mem_of_getElem? (i := 1404) (by decide +kernel)⟩
theorem lw_p43 : lw_okq (⟨"LocksBySongModel", "readsLock", "()Z"⟩, 53) := ⟨⟨by decide +kernel, by decide +kernel⟩, List.mem_of_getElem? (i := 1214) (by decide +kernel), List.mem_of_getElem? (i := 1408) (by decide +kernel), List.mem_of_getElem? (i := 1409) (by decide +kernel)⟩
theorem lw_p44 : lw_okq (⟨"LocksBySongModel", "signIn", "(III)I"⟩, 53) := ⟨⟨by decide +kernel, by decide +kernel⟩, List.mem_of_getElem? (i := 1214) (by decide +kernel), List.mem_of_getElem? (i := 1412) (by decide +kernel), List.mem_of_getElem? (i := 1413) (by decide +kernel)⟩
theorem lw_p45 : lw_okq (⟨"LocksBySongModel", "readsSinger", "()Z"⟩, 53) := ⟨⟨by decide +kernel, by decide +kernel⟩, List.mem_of_getElem? (i := 1214) (by decide +kernel), List.mem_of_getElem? (i := 1416) (by decide +kernel), List.mem_of_getElem? (i := 1417) (by decide +kernel)⟩
theorem lw_p46 : lw_okq (⟨"LocksBySongModel", "takes", "(I)Z"⟩, 53) := ⟨⟨by decide +kernel, by decide +kernel⟩, List.mem_of_getElem? (i := 1214) (by decide +kernel), List.mem_of_getElem? (i := 1420) (by decide +kernel), List.mem_of_getElem? (i := 1421) (by decide +kernel)⟩
theorem lw_p47 : lw_okq (⟨"LocksBySongModel", "number", "(I)I"⟩, 53) := ⟨⟨by decide +kernel, by decide +kernel⟩, List.mem_of_getElem? (i := 1214) (by decide +kernel), List.mem_of_getElem? (i := 1427) (by decide +kernel), List.mem_of_getElem? (i := 1428) (by decide +kernel)⟩
def lw_privs_3 : List (MethodName × Nat) := [(⟨"LocksBySong$Waiting", "goesUpNext", "(III)Z"⟩, 5), (⟨"LocksBySong$Voyage", "chordAhead", "(LLocksBySong$Moment;II)I"⟩, 5), (⟨"LocksBySong$Night", "hasInRange", "(II)Z"⟩, 6), (⟨"LocksBySong$Night", "findPairs", "(I)V"⟩, 6), (⟨"LocksBySong$Night", "markPair", "(III)V"⟩, 6), (⟨"LocksBySong$Night", "allApart", "()Z"⟩, 6), (⟨"LocksBySong$Night", "partingBy", "(III)I"⟩, 6), (⟨"LocksBySong", "tellFirstPair", "(III)V"⟩, 15), (⟨"java/lang/Throwable", "fillInStackTrace", "(I)Ljava/lang/Throwable;"⟩, 6), (⟨"LocksBySongModel", "readsLines", "(II)I"⟩, 53), (⟨"LocksBySongModel", "begins", "(I)I"⟩, 53), (⟨"LocksBySongModel", "readsLock", "()Z"⟩, 53), (⟨"LocksBySongModel", "signIn", "(III)I"⟩, 53), (⟨"LocksBySongModel", "readsSinger", "()Z"⟩, 53), (⟨"LocksBySongModel", "takes", "(I)Z"⟩, 53), (⟨"LocksBySongModel", "number", "(I)I"⟩, 53)]
theorem lw_r3 : ∀ q ∈ lw_privs_3, lw_okq q := List.forall_mem_cons.mpr ⟨lw_p32, List.forall_mem_cons.mpr ⟨lw_p33, List.forall_mem_cons.mpr ⟨lw_p34, List.forall_mem_cons.mpr ⟨lw_p35, List.forall_mem_cons.mpr ⟨lw_p36, List.forall_mem_cons.mpr ⟨lw_p37, List.forall_mem_cons.mpr ⟨lw_p38, List.forall_mem_cons.mpr ⟨lw_p39, List.forall_mem_cons.mpr ⟨lw_p40, List.forall_mem_cons.mpr ⟨lw_p41, List.forall_mem_cons.mpr ⟨lw_p42, List.forall_mem_cons.mpr ⟨lw_p43, List.forall_mem_cons.mpr ⟨lw_p44, List.forall_mem_cons.mpr ⟨lw_p45, List.forall_mem_cons.mpr ⟨lw_p46, List.forall_mem_cons.mpr ⟨lw_p47, fun _ h => absurd h List.not_mem_nil⟩⟩⟩⟩⟩⟩⟩⟩⟩⟩⟩⟩⟩⟩⟩⟩
theorem lw_p48 : lw_okq (⟨"LocksBySongModel", "isDigit", "()Z"⟩, 53) := ⟨⟨by decide +kernel, by decide +kernel⟩, List.mem_of_getElem? (i := 1214) (by decide +kernel), List.mem_of_getElem? (i := 1431) (by decide +kernel), List.mem_of_getElem? (i := 1432) (by decide +kernel)⟩
theorem lw_p49 : lw_okq (⟨"LocksBySongModel", "readsBarge", "()Z"⟩, 53) := ⟨⟨by decide +kernel, by decide +kernel⟩, List.mem_of_getElem? (i := 1214) (by decide +kernel), List.mem_of_getElem? (i := 1437) (by decide +kernel), List.mem_of_getElem? (i := 1438) (by decide +kernel)⟩
theorem lw_p50 : lw_okq (⟨"LocksBySongModel", "faultOf", "(IIZ)I"⟩, 53) := ⟨⟨by decide +kernel, by decide +kernel⟩, List.mem_of_getElem? (i := 1214) (by decide +kernel), List.mem_of_getElem? (i := 1441) (by decide +kernel), List.mem_of_getElem? (i := 1442) (by decide +kernel)⟩
theorem lw_p51 : lw_okq (⟨"LocksBySongModel", "came", "()I"⟩, 53) := ⟨⟨by decide +kernel, by decide +kernel⟩, List.mem_of_getElem? (i := 1214) (by decide +kernel), List.mem_of_getElem? (i := 1445) (by decide +kernel), List.mem_of_getElem? (i := 1446) (by decide +kernel)⟩
theorem lw_p52 : lw_okq (⟨"LocksBySongModel", "readsRank", "(I)Z"⟩, 53) := ⟨⟨by decide +kernel, by decide +kernel⟩, List.mem_of_getElem? (i := 1214) (by decide +kernel), List.mem_of_getElem? (i := 1461) (by decide +kernel), List.mem_of_getElem? (i := 1462) (by decide +kernel)⟩
theorem lw_p53 : lw_okq (⟨"LocksBySongModel", "readsThing", "()Z"⟩, 53) := ⟨⟨by decide +kernel, by decide +kernel⟩, List.mem_of_getElem? (i := 1214) (by decide +kernel), List.mem_of_getElem? (i := 1465) (by decide +kernel), List.mem_of_getElem? (i := 1466) (by decide +kernel)⟩
theorem lw_p54 : lw_okq (⟨"LocksBySongModel", "codes", "(I)V"⟩, 53) := ⟨⟨by decide +kernel, by decide +kernel⟩, List.mem_of_getElem? (i := 1214) (by decide +kernel), List.mem_of_getElem? (i := 1469) (by decide +kernel), List.mem_of_getElem? (i := 1470) (by decide +kernel)⟩
theorem lw_p55 : lw_okq (⟨"LocksBySongModel", "takesOf", "(Ljava/lang/String;)I"⟩, 53) := ⟨⟨by decide +kernel, by decide +kernel⟩, List.mem_of_getElem? (i := 1214) (by decide +kernel), List.mem_of_getElem? (i := 1474) (by decide +kernel), List.mem_of_getElem? (i := 1475) (by decide +kernel)⟩
theorem lw_p56 : lw_okq (⟨"LocksBySongModel", "among", "(Ljava/lang/String;)I"⟩, 53) := ⟨⟨by decide +kernel, by decide +kernel⟩, List.mem_of_getElem? (i := 1214) (by decide +kernel), List.mem_of_getElem? (i := 1478) (by decide +kernel), List.mem_of_getElem? (i := 1479) (by decide +kernel)⟩
theorem lw_p57 : lw_okq (⟨"LocksBySongModel", "isLock", "(I)Z"⟩, 53) := ⟨⟨by decide +kernel, by decide +kernel⟩, List.mem_of_getElem? (i := 1214) (by decide +kernel), List.mem_of_getElem? (i := 1510) (by decide +kernel), List.mem_of_getElem? (i := 1511) (by decide +kernel)⟩
theorem lw_p58 : lw_okq (⟨"LocksBySongModel", "refuse", "()I"⟩, 53) := ⟨⟨by decide +kernel, by decide +kernel⟩, List.mem_of_getElem? (i := 1214) (by decide +kernel), List.mem_of_getElem? (i := 1515) (by decide +kernel), List.mem_of_getElem? (i := 1516) (by decide +kernel)⟩
theorem lw_p59 : lw_okq (⟨"LocksBySongModel", "isSinger", "(I)Z"⟩, 53) := ⟨⟨by decide +kernel, by decide +kernel⟩, List.mem_of_getElem? (i := 1214) (by decide +kernel), List.mem_of_getElem? (i := 1523) (by decide +kernel), List.mem_of_getElem? (i := 1524) (by decide +kernel)⟩
theorem lw_p60 : lw_okq (⟨"LocksBySongModel", "whereIs", "(I)I"⟩, 53) := ⟨⟨by decide +kernel, by decide +kernel⟩, List.mem_of_getElem? (i := 1214) (by decide +kernel), List.mem_of_getElem? (i := 1530) (by decide +kernel), List.mem_of_getElem? (i := 1531) (by decide +kernel)⟩
theorem lw_p61 : lw_okq (⟨"LocksBySongModel", "isBarge", "(I)Z"⟩, 53) := ⟨⟨by decide +kernel, by decide +kernel⟩, List.mem_of_getElem? (i := 1214) (by decide +kernel), List.mem_of_getElem? (i := 1544) (by decide +kernel), List.mem_of_getElem? (i := 1545) (by decide +kernel)⟩
theorem lw_p62 : lw_okq (⟨"LocksBySongModel", "crew", "([II)I"⟩, 53) := ⟨⟨by decide +kernel, by decide +kernel⟩, List.mem_of_getElem? (i := 1214) (by decide +kernel), List.mem_of_getElem? (i := 1549) (by decide +kernel), List.mem_of_getElem? (i := 1550) (by decide +kernel)⟩
theorem lw_p63 : lw_okq (⟨"LocksBySongModel", "putsBy", "()V"⟩, 53) := ⟨⟨by decide +kernel, by decide +kernel⟩, List.mem_of_getElem? (i := 1214) (by decide +kernel), List.mem_of_getElem? (i := 1572) (by decide +kernel), List.mem_of_getElem? (i := 1573) (by decide +kernel)⟩
def lw_privs_4 : List (MethodName × Nat) := [(⟨"LocksBySongModel", "isDigit", "()Z"⟩, 53), (⟨"LocksBySongModel", "readsBarge", "()Z"⟩, 53), (⟨"LocksBySongModel", "faultOf", "(IIZ)I"⟩, 53), (⟨"LocksBySongModel", "came", "()I"⟩, 53), (⟨"LocksBySongModel", "readsRank", "(I)Z"⟩, 53), (⟨"LocksBySongModel", "readsThing", "()Z"⟩, 53), (⟨"LocksBySongModel", "codes", "(I)V"⟩, 53), (⟨"LocksBySongModel", "takesOf", "(Ljava/lang/String;)I"⟩, 53), (⟨"LocksBySongModel", "among", "(Ljava/lang/String;)I"⟩, 53), (⟨"LocksBySongModel", "isLock", "(I)Z"⟩, 53), (⟨"LocksBySongModel", "refuse", "()I"⟩, 53), (⟨"LocksBySongModel", "isSinger", "(I)Z"⟩, 53), (⟨"LocksBySongModel", "whereIs", "(I)I"⟩, 53), (⟨"LocksBySongModel", "isBarge", "(I)Z"⟩, 53), (⟨"LocksBySongModel", "crew", "([II)I"⟩, 53), (⟨"LocksBySongModel", "putsBy", "()V"⟩, 53)]
theorem lw_r4 : ∀ q ∈ lw_privs_4, lw_okq q := List.forall_mem_cons.mpr ⟨lw_p48, List.forall_mem_cons.mpr ⟨lw_p49, List.forall_mem_cons.mpr ⟨lw_p50, List.forall_mem_cons.mpr ⟨lw_p51, List.forall_mem_cons.mpr ⟨lw_p52, List.forall_mem_cons.mpr ⟨lw_p53, List.forall_mem_cons.mpr ⟨lw_p54, List.forall_mem_cons.mpr ⟨lw_p55, List.forall_mem_cons.mpr ⟨lw_p56, List.forall_mem_cons.mpr ⟨lw_p57, List.forall_mem_cons.mpr ⟨lw_p58, List.forall_mem_cons.mpr ⟨lw_p59, List.forall_mem_cons.mpr ⟨lw_p60, List.forall_mem_cons.mpr ⟨lw_p61, List.forall_mem_cons.mpr ⟨lw_p62, List.forall_mem_cons.mpr ⟨lw_p63, fun _ h => absurd h List.not_mem_nil⟩⟩⟩⟩⟩⟩⟩⟩⟩⟩⟩⟩⟩⟩⟩⟩
theorem lw_p64 : lw_okq (⟨"LocksBySongModel", "hiresTo", "([III)I"⟩, 53) := ⟨⟨by decide +kernel, by decide +kernel⟩, List.mem_of_getElem? (i := 1214) (by decide +kernel), List.mem_of_getElem? (i := 1576) (by decide +kernel), List.mem_of_getElem? (i := 1577) (by decide +kernel)⟩
theorem lw_p65 : lw_okq (⟨"LocksBySongModel", "counts", "(I)I"⟩, 53) := ⟨⟨by decide +kernel, by decide +kernel⟩, List.mem_of_getElem? (i := 1214) (by decide +kernel), List.mem_of_getElem? (i := 1580) (by decide +kernel), List.mem_of_getElem? (i := 1581) (by decide +kernel)⟩
theorem lw_p66 : lw_okq (⟨"LocksBySongModel", "adds", "(I)I"⟩, 53) := ⟨⟨by decide +kernel, by decide +kernel⟩, List.mem_of_getElem? (i := 1214) (by decide +kernel), List.mem_of_getElem? (i := 1584) (by decide +kernel), List.mem_of_getElem? (i := 1585) (by decide +kernel)⟩
theorem lw_p67 : lw_okq (⟨"LocksBySongModel", "leaves", "([II)I"⟩, 53) := ⟨⟨by decide +kernel, by decide +kernel⟩, List.mem_of_getElem? (i := 1214) (by decide +kernel), List.mem_of_getElem? (i := 1592) (by decide +kernel), List.mem_of_getElem? (i := 1593) (by decide +kernel)⟩
theorem lw_p68 : lw_okq (⟨"LocksBySongModel", "passes", "([III)I"⟩, 53) := ⟨⟨by decide +kernel, by decide +kernel⟩, List.mem_of_getElem? (i := 1214) (by decide +kernel), List.mem_of_getElem? (i := 1600) (by decide +kernel), List.mem_of_getElem? (i := 1601) (by decide +kernel)⟩
theorem lw_p69 : lw_okq (⟨"LocksBySongModel", "whyNot", "([III)I"⟩, 53) := ⟨⟨by decide +kernel, by decide +kernel⟩, List.mem_of_getElem? (i := 1214) (by decide +kernel), List.mem_of_getElem? (i := 1604) (by decide +kernel), List.mem_of_getElem? (i := 1605) (by decide +kernel)⟩
theorem lw_p70 : lw_okq (⟨"LocksBySongModel", "singsChord", "([III)Z"⟩, 53) := ⟨⟨by decide +kernel, by decide +kernel⟩, List.mem_of_getElem? (i := 1214) (by decide +kernel), List.mem_of_getElem? (i := 1608) (by decide +kernel), List.mem_of_getElem? (i := 1609) (by decide +kernel)⟩
theorem lw_p71 : lw_okq (⟨"LocksBySongModel", "laysNotes", "(II)V"⟩, 53) := ⟨⟨by decide +kernel, by decide +kernel⟩, List.mem_of_getElem? (i := 1214) (by decide +kernel), List.mem_of_getElem? (i := 1612) (by decide +kernel), List.mem_of_getElem? (i := 1613) (by decide +kernel)⟩
theorem lw_p72 : lw_okq (⟨"LocksBySongModel", "singsFrom", "([IIII)Z"⟩, 53) := ⟨⟨by decide +kernel, by decide +kernel⟩, List.mem_of_getElem? (i := 1214) (by decide +kernel), List.mem_of_getElem? (i := 1616) (by decide +kernel), List.mem_of_getElem? (i := 1617) (by decide +kernel)⟩
theorem lw_p73 : lw_okq (⟨"LocksBySongModel", "canSing", "([III)Z"⟩, 53) := ⟨⟨by decide +kernel, by decide +kernel⟩, List.mem_of_getElem? (i := 1214) (by decide +kernel), List.mem_of_getElem? (i := 1623) (by decide +kernel), List.mem_of_getElem? (i := 1624) (by decide +kernel)⟩
theorem lw_p74 : lw_okq (⟨"LocksBySongModel", "minutes", "([IIII)I"⟩, 53) := ⟨⟨by decide +kernel, by decide +kernel⟩, List.mem_of_getElem? (i := 1214) (by decide +kernel), List.mem_of_getElem? (i := 1630) (by decide +kernel), List.mem_of_getElem? (i := 1631) (by decide +kernel)⟩
theorem lw_p75 : lw_okq (⟨"LocksBySongModel", "tiredAll", "([II)I"⟩, 53) := ⟨⟨by decide +kernel, by decide +kernel⟩, List.mem_of_getElem? (i := 1214) (by decide +kernel), List.mem_of_getElem? (i := 1634) (by decide +kernel), List.mem_of_getElem? (i := 1635) (by decide +kernel)⟩
theorem lw_p76 : lw_okq (⟨"LocksBySongModel", "ruled", "()I"⟩, 53) := ⟨⟨by decide +kernel, by decide +kernel⟩, List.mem_of_getElem? (i := 1214) (by decide +kernel), List.mem_of_getElem? (i := 1639) (by decide +kernel), List.mem_of_getElem? (i := 1640) (by decide +kernel)⟩
theorem lw_p77 : lw_okq (⟨"LocksBySongModel", "tellsSung", "()V"⟩, 53) := ⟨⟨by decide +kernel, by decide +kernel⟩, List.mem_of_getElem? (i := 1214) (by decide +kernel), List.mem_of_getElem? (i := 1646) (by decide +kernel), List.mem_of_getElem? (i := 1647) (by decide +kernel)⟩
theorem lw_p78 : lw_okq (⟨"LocksBySongModel", "enters", "(J)V"⟩, 53) := ⟨⟨by decide +kernel, by decide +kernel⟩, List.mem_of_getElem? (i := 1214) (by decide +kernel), List.mem_of_getElem? (i := 1650) (by decide +kernel), List.mem_of_getElem? (i := 1651) (by decide +kernel)⟩
theorem lw_p79 : lw_okq (⟨"LocksBySongModel", "restsFor", "([II)V"⟩, 53) := ⟨⟨by decide +kernel, by decide +kernel⟩, List.mem_of_getElem? (i := 1214) (by decide +kernel), List.mem_of_getElem? (i := 1659) (by decide +kernel), List.mem_of_getElem? (i := 1660) (by decide +kernel)⟩
def lw_privs_5 : List (MethodName × Nat) := [(⟨"LocksBySongModel", "hiresTo", "([III)I"⟩, 53), (⟨"LocksBySongModel", "counts", "(I)I"⟩, 53), (⟨"LocksBySongModel", "adds", "(I)I"⟩, 53), (⟨"LocksBySongModel", "leaves", "([II)I"⟩, 53), (⟨"LocksBySongModel", "passes", "([III)I"⟩, 53), (⟨"LocksBySongModel", "whyNot", "([III)I"⟩, 53), (⟨"LocksBySongModel", "singsChord", "([III)Z"⟩, 53), (⟨"LocksBySongModel", "laysNotes", "(II)V"⟩, 53), (⟨"LocksBySongModel", "singsFrom", "([IIII)Z"⟩, 53), (⟨"LocksBySongModel", "canSing", "([III)Z"⟩, 53), (⟨"LocksBySongModel", "minutes", "([IIII)I"⟩, 53), (⟨"LocksBySongModel", "tiredAll", "([II)I"⟩, 53), (⟨"LocksBySongModel", "ruled", "()I"⟩, 53), (⟨"LocksBySongModel", "tellsSung", "()V"⟩, 53), (⟨"LocksBySongModel", "enters", "(J)V"⟩, 53), (⟨"LocksBySongModel", "restsFor", "([II)V"⟩, 53)]
theorem lw_r5 : ∀ q ∈ lw_privs_5, lw_okq q := List.forall_mem_cons.mpr ⟨lw_p64, List.forall_mem_cons.mpr ⟨lw_p65, List.forall_mem_cons.mpr ⟨lw_p66, List.forall_mem_cons.mpr ⟨lw_p67, List.forall_mem_cons.mpr ⟨lw_p68, List.forall_mem_cons.mpr ⟨lw_p69, List.forall_mem_cons.mpr ⟨lw_p70, List.forall_mem_cons.mpr ⟨lw_p71, List.forall_mem_cons.mpr ⟨lw_p72, List.forall_mem_cons.mpr ⟨lw_p73, List.forall_mem_cons.mpr ⟨lw_p74, List.forall_mem_cons.mpr ⟨lw_p75, List.forall_mem_cons.mpr ⟨lw_p76, List.forall_mem_cons.mpr ⟨lw_p77, List.forall_mem_cons.mpr ⟨lw_p78, List.forall_mem_cons.mpr ⟨lw_p79, fun _ h => absurd h List.not_mem_nil⟩⟩⟩⟩⟩⟩⟩⟩⟩⟩⟩⟩⟩⟩⟩⟩
theorem lw_p80 : lw_okq (⟨"LocksBySongModel", "readsAct", "()Z"⟩, 53) := ⟨⟨by decide +kernel, by decide +kernel⟩, List.mem_of_getElem? (i := 1214) (by decide +kernel), List.mem_of_getElem? (i := 1667) (by decide +kernel), List.mem_of_getElem? (i := 1668) (by decide +kernel)⟩
theorem lw_p81 : lw_okq (⟨"LocksBySongModel", "does", "(I)Z"⟩, 53) := ⟨⟨by decide +kernel, by decide +kernel⟩, List.mem_of_getElem? (i := 1214) (by decide +kernel), List.mem_of_getElem? (i := 1672) (by decide +kernel), List.mem_of_getElem? (i := 1673) (by decide +kernel)⟩
theorem lw_p82 : lw_okq (⟨"LocksBySongModel", "isPair", "(II)Z"⟩, 53) := ⟨⟨by decide +kernel, by decide +kernel⟩, List.mem_of_getElem? (i := 1214) (by decide +kernel), List.mem_of_getElem? (i := 1680) (by decide +kernel), List.mem_of_getElem? (i := 1681) (by decide +kernel)⟩
theorem lw_p83 : lw_okq (⟨"LocksBySongModel", "isShift", "(III)Z"⟩, 53) := ⟨⟨by decide +kernel, by decide +kernel⟩, List.mem_of_getElem? (i := 1214) (by decide +kernel), List.mem_of_getElem? (i := 1696) (by decide +kernel), List.mem_of_getElem? (i := 1697) (by decide +kernel)⟩
theorem lw_p84 : lw_okq (⟨"LocksBySongModel", "freeAt", "(I)I"⟩, 53) := ⟨⟨by decide +kernel, by decide +kernel⟩, List.mem_of_getElem? (i := 1214) (by decide +kernel), List.mem_of_getElem? (i := 1705) (by decide +kernel), List.mem_of_getElem? (i := 1706) (by decide +kernel)⟩
theorem lw_p85 : lw_okq (⟨"LocksBySongModel", "voicesOf", "(III)I"⟩, 53) := ⟨⟨by decide +kernel, by decide +kernel⟩, List.mem_of_getElem? (i := 1214) (by decide +kernel), List.mem_of_getElem? (i := 1709) (by decide +kernel), List.mem_of_getElem? (i := 1710) (by decide +kernel)⟩
theorem lw_p86 : lw_okq (⟨"LocksBySongModel", "isCheaper", "(II)Z"⟩, 53) := ⟨⟨by decide +kernel, by decide +kernel⟩, List.mem_of_getElem? (i := 1214) (by decide +kernel), List.mem_of_getElem? (i := 1713) (by decide +kernel), List.mem_of_getElem? (i := 1714) (by decide +kernel)⟩
theorem lw_p87 : lw_okq (⟨"LocksBySongModel", "fees", "(I)I"⟩, 53) := ⟨⟨by decide +kernel, by decide +kernel⟩, List.mem_of_getElem? (i := 1214) (by decide +kernel), List.mem_of_getElem? (i := 1717) (by decide +kernel), List.mem_of_getElem? (i := 1718) (by decide +kernel)⟩
theorem lw_p88 : lw_okq (⟨"LocksBySongModel", "isPlace", "(I)Z"⟩, 53) := ⟨⟨by decide +kernel, by decide +kernel⟩, List.mem_of_getElem? (i := 1214) (by decide +kernel), List.mem_of_getElem? (i := 1725) (by decide +kernel), List.mem_of_getElem? (i := 1726) (by decide +kernel)⟩
theorem lw_p89 : lw_okq (⟨"LocksBySongModel", "puts", "()V"⟩, 53) := ⟨⟨by decide +kernel, by decide +kernel⟩, List.mem_of_getElem? (i := 1214) (by decide +kernel), List.mem_of_getElem? (i := 1729) (by decide +kernel), List.mem_of_getElem? (i := 1730) (by decide +kernel)⟩
theorem lw_p90 : lw_okq (⟨"LocksBySongModel", "goesTo", "(II)I"⟩, 53) := ⟨⟨by decide +kernel, by decide +kernel⟩, List.mem_of_getElem? (i := 1214) (by decide +kernel), List.mem_of_getElem? (i := 1733) (by decide +kernel), List.mem_of_getElem? (i := 1734) (by decide +kernel)⟩
theorem lw_p91 : lw_okq (⟨"LocksBySongModel", "singsAll", "(III)Z"⟩, 53) := ⟨⟨by decide +kernel, by decide +kernel⟩, List.mem_of_getElem? (i := 1214) (by decide +kernel), List.mem_of_getElem? (i := 1741) (by decide +kernel), List.mem_of_getElem? (i := 1742) (by decide +kernel)⟩
theorem lw_p92 : lw_okq (⟨"LocksBySongModel", "laysQueue", "()V"⟩, 53) := ⟨⟨by decide +kernel, by decide +kernel⟩, List.mem_of_getElem? (i := 1214) (by decide +kernel), List.mem_of_getElem? (i := 1754) (by decide +kernel), List.mem_of_getElem? (i := 1755) (by decide +kernel)⟩
theorem lw_p93 : lw_okq (⟨"LocksBySongModel", "yetBy", "(IIII)I"⟩, 53) := ⟨⟨by decide +kernel, by decide +kernel⟩, List.mem_of_getElem? (i := 1214) (by decide +kernel), List.mem_of_getElem? (i := 1758) (by decide +kernel), List.mem_of_getElem? (i := 1759) (by decide +kernel)⟩
theorem lw_p94 : lw_okq (⟨"LocksBySongModel", "passing", "()I"⟩, 53) := ⟨⟨by decide +kernel, by decide +kernel⟩, List.mem_of_getElem? (i := 1214) (by decide +kernel), List.mem_of_getElem? (i := 1773) (by decide +kernel), List.mem_of_getElem? (i := 1774) (by decide +kernel)⟩
theorem lw_p95 : lw_okq (⟨"LocksBySongModel", "fitting", "()I"⟩, 53) := ⟨⟨by decide +kernel, by decide +kernel⟩, List.mem_of_getElem? (i := 1214) (by decide +kernel), List.mem_of_getElem? (i := 1789) (by decide +kernel), List.mem_of_getElem? (i := 1790) (by decide +kernel)⟩
def lw_privs_6 : List (MethodName × Nat) := [(⟨"LocksBySongModel", "readsAct", "()Z"⟩, 53), (⟨"LocksBySongModel", "does", "(I)Z"⟩, 53), (⟨"LocksBySongModel", "isPair", "(II)Z"⟩, 53), (⟨"LocksBySongModel", "isShift", "(III)Z"⟩, 53), (⟨"LocksBySongModel", "freeAt", "(I)I"⟩, 53), (⟨"LocksBySongModel", "voicesOf", "(III)I"⟩, 53), (⟨"LocksBySongModel", "isCheaper", "(II)Z"⟩, 53), (⟨"LocksBySongModel", "fees", "(I)I"⟩, 53), (⟨"LocksBySongModel", "isPlace", "(I)Z"⟩, 53), (⟨"LocksBySongModel", "puts", "()V"⟩, 53), (⟨"LocksBySongModel", "goesTo", "(II)I"⟩, 53), (⟨"LocksBySongModel", "singsAll", "(III)Z"⟩, 53), (⟨"LocksBySongModel", "laysQueue", "()V"⟩, 53), (⟨"LocksBySongModel", "yetBy", "(IIII)I"⟩, 53), (⟨"LocksBySongModel", "passing", "()I"⟩, 53), (⟨"LocksBySongModel", "fitting", "()I"⟩, 53)]
theorem lw_r6 : ∀ q ∈ lw_privs_6, lw_okq q := List.forall_mem_cons.mpr ⟨lw_p80, List.forall_mem_cons.mpr ⟨lw_p81, List.forall_mem_cons.mpr ⟨lw_p82, List.forall_mem_cons.mpr ⟨lw_p83, List.forall_mem_cons.mpr ⟨lw_p84, List.forall_mem_cons.mpr ⟨lw_p85, List.forall_mem_cons.mpr ⟨lw_p86, List.forall_mem_cons.mpr ⟨lw_p87, List.forall_mem_cons.mpr ⟨lw_p88, List.forall_mem_cons.mpr ⟨lw_p89, List.forall_mem_cons.mpr ⟨lw_p90, List.forall_mem_cons.mpr ⟨lw_p91, List.forall_mem_cons.mpr ⟨lw_p92, List.forall_mem_cons.mpr ⟨lw_p93, List.forall_mem_cons.mpr ⟨lw_p94, List.forall_mem_cons.mpr ⟨lw_p95, fun _ h => absurd h List.not_mem_nil⟩⟩⟩⟩⟩⟩⟩⟩⟩⟩⟩⟩⟩⟩⟩⟩
theorem lw_p96 : lw_okq (⟨"LocksBySongModel", "singersOf", "(I)I"⟩, 53) := ⟨⟨by decide +kernel, by decide +kernel⟩, List.mem_of_getElem? (i := 1214) (by decide +kernel), List.mem_of_getElem? (i := 1793) (by decide +kernel), List.mem_of_getElem? (i := 1794) (by decide +kernel)⟩
theorem lw_p97 : lw_okq (⟨"LocksBySongModel", "partsBy", "(IIII)I"⟩, 53) := ⟨⟨by decide +kernel, by decide +kernel⟩, List.mem_of_getElem? (i := 1214) (by decide +kernel), List.mem_of_getElem? (i := 1805) (by decide +kernel), List.mem_of_getElem? (i := 1806) (by decide +kernel)⟩
theorem lw_p98 : lw_okq (⟨"LocksBySongModel", "isParted", "(II)Z"⟩, 53) := ⟨⟨by decide +kernel, by decide +kernel⟩, List.mem_of_getElem? (i := 1214) (by decide +kernel), List.mem_of_getElem? (i := 1809) (by decide +kernel), List.mem_of_getElem? (i := 1810) (by decide +kernel)⟩
theorem lw_p99 : lw_okq (⟨"LocksBySongModel", "bets", "(II)V"⟩, 53) := ⟨⟨by decide +kernel, by decide +kernel⟩, List.mem_of_getElem? (i := 1214) (by decide +kernel), List.mem_of_getElem? (i := 1819) (by decide +kernel), List.mem_of_getElem? (i := 1820) (by decide +kernel)⟩
theorem lw_p100 : lw_okq (⟨"LocksBySongModel", "levels", "()I"⟩, 53) := ⟨⟨by decide +kernel, by decide +kernel⟩, List.mem_of_getElem? (i := 1214) (by decide +kernel), List.mem_of_getElem? (i := 1866) (by decide +kernel), List.mem_of_getElem? (i := 1867) (by decide +kernel)⟩
def lw_privs_7 : List (MethodName × Nat) := [(⟨"LocksBySongModel", "singersOf", "(I)I"⟩, 53), (⟨"LocksBySongModel", "partsBy", "(IIII)I"⟩, 53), (⟨"LocksBySongModel", "isParted", "(II)Z"⟩, 53), (⟨"LocksBySongModel", "bets", "(II)V"⟩, 53), (⟨"LocksBySongModel", "levels", "()I"⟩, 53)]
theorem lw_r7 : ∀ q ∈ lw_privs_7, lw_okq q := List.forall_mem_cons.mpr ⟨lw_p96, List.forall_mem_cons.mpr ⟨lw_p97, List.forall_mem_cons.mpr ⟨lw_p98, List.forall_mem_cons.mpr ⟨lw_p99, List.forall_mem_cons.mpr ⟨lw_p100, fun _ h => absurd h List.not_mem_nil⟩⟩⟩⟩⟩
def lw_privs : List (MethodName × Nat) := lw_privs_1 ++ (lw_privs_2 ++ (lw_privs_3 ++ (lw_privs_4 ++ (lw_privs_5 ++ (lw_privs_6 ++ (lw_privs_7))))))
def lw_tbl : List Cond := k2_sels lw_privs ++ tables_1
theorem lw_privs_ok : ∀ q ∈ lw_privs, lw_okq q := by
  show ∀ q ∈ lw_privs_1 ++ (lw_privs_2 ++ (lw_privs_3 ++ (lw_privs_4 ++ (lw_privs_5 ++ (lw_privs_6 ++ (lw_privs_7)))))), lw_okq q
  exact List.forall_mem_append.mpr ⟨lw_r1, List.forall_mem_append.mpr ⟨lw_r2, List.forall_mem_append.mpr ⟨lw_r3, List.forall_mem_append.mpr ⟨lw_r4, List.forall_mem_append.mpr ⟨lw_r5, List.forall_mem_append.mpr ⟨lw_r6, lw_r7⟩⟩⟩⟩⟩⟩
end
section
def RX0 : String := "LocksBySong$Canal"
def TX0 : u_T := fun k => match k with
  | 0 => ("LocksBySong$Canal", "rule", "LLocksBySong$Rule;", true)
  | 1 => ("LocksBySong$Canal", "chords", "[I", true)
  | 2 => ("LocksBySong$Canal", "held", "[I", true)
  | 3 => ("LocksBySong$Canal", "low", "[I", true)
  | 4 => ("LocksBySong$Canal", "high", "[I", true)
  | 5 => ("LocksBySong$Canal", "fee", "[I", true)
  | 6 => ("LocksBySong$Canal", "load", "[I", true)
  | 7 => ("LocksBySong$Canal", "lockCount", "I", false)
  | 8 => ("LocksBySong$Canal", "singerCount", "I", false)
  | 9 => ("LocksBySong$Canal", "bargeCount", "I", false)
  | _ => ("LocksBySong$Canal", "jammed", "I", false)
def tyX0 : Nat → FieldType := fun k => match k with
  | 0 => .object "LocksBySong$Rule"
  | 1 => .array .int
  | 2 => .array .int
  | 3 => .array .int
  | 4 => .array .int
  | 5 => .array .int
  | 6 => .array .int
  | 7 => .int
  | 8 => .int
  | 9 => .int
  | _ => .int
abbrev wsX00 : List Cond := u_ws RX0 TX0 11
theorem nmX0 : ∀ a, a < 11 → ∀ b, b < 11 → a ≠ b → (TX0 a).2.1 ≠ (TX0 b).2.1 := by decide +kernel
theorem tyX0_ok : ∀ k, k < 11 → parseFieldDescriptor (TX0 k).2.2.1 = some (tyX0 k) := by decide +kernel
abbrev cX0_init : ByteArray := prog_2_method_1_code
def yX0_init : MethodName := ⟨RX0, "<init>", "()V"⟩
abbrev cX0_hasLock : ByteArray := prog_2_method_2_code
def yX0_hasLock : MethodName := ⟨RX0, "hasLock", "(I)Z"⟩
abbrev cX0_hasPlace : ByteArray := prog_2_method_3_code
def yX0_hasPlace : MethodName := ⟨RX0, "hasPlace", "(I)Z"⟩
abbrev cX0_hasSinger : ByteArray := prog_2_method_4_code
def yX0_hasSinger : MethodName := ⟨RX0, "hasSinger", "(I)Z"⟩
abbrev cX0_hasBarge : ByteArray := prog_2_method_5_code
def yX0_hasBarge : MethodName := ⟨RX0, "hasBarge", "(I)Z"⟩
abbrev cX0_many : ByteArray := prog_2_method_6_code
def yX0_many : MethodName := ⟨RX0, "many", "(I)I"⟩
abbrev cX0_room : ByteArray := prog_2_method_7_code
def yX0_room : MethodName := ⟨RX0, "room", "(I)I"⟩
abbrev cX0_grow : ByteArray := prog_2_method_8_code
def yX0_grow : MethodName := ⟨RX0, "grow", "(II)V"⟩
abbrev cX0_readLine : ByteArray := prog_2_method_9_code
def yX0_readLine : MethodName := ⟨RX0, "readLine", "(IILLocksBySong$Script;LLocksBySong$Moment;)Z"⟩
abbrev cX0_readLock : ByteArray := prog_2_method_10_code
def yX0_readLock : MethodName := ⟨RX0, "readLock", "(ILLocksBySong$Script;)Z"⟩
abbrev cX0_readSinger : ByteArray := prog_2_method_11_code
def yX0_readSinger : MethodName := ⟨RX0, "readSinger", "(ILLocksBySong$Script;LLocksBySong$Moment;)Z"⟩
abbrev cX0_readBarge : ByteArray := prog_2_method_12_code
def yX0_readBarge : MethodName := ⟨RX0, "readBarge", "(ILLocksBySong$Script;LLocksBySong$Moment;)Z"⟩
abbrev cX0_readPlace : ByteArray := prog_2_method_13_code
def yX0_readPlace : MethodName := ⟨RX0, "readPlace", "(LLocksBySong$Script;)I"⟩
abbrev cX0_takeFees : ByteArray := prog_2_method_14_code
def yX0_takeFees : MethodName := ⟨RX0, "takeFees", "(IIII)I"⟩
abbrev cX0_narrowed : ByteArray := prog_2_method_15_code
def yX0_narrowed : MethodName := ⟨RX0, "narrowed", "(II)I"⟩
abbrev cX0_crewOf : ByteArray := prog_2_method_16_code
def yX0_crewOf : MethodName := ⟨RX0, "crewOf", "(LLocksBySong$Moment;I)I"⟩
abbrev cX0_freeAt : ByteArray := prog_2_method_17_code
def yX0_freeAt : MethodName := ⟨RX0, "freeAt", "(LLocksBySong$Moment;I)I"⟩
abbrev cX0_tiredOf : ByteArray := prog_2_method_18_code
def yX0_tiredOf : MethodName := ⟨RX0, "tiredOf", "(LLocksBySong$Moment;I)I"⟩
abbrev cX0_feesOf : ByteArray := prog_2_method_19_code
def yX0_feesOf : MethodName := ⟨RX0, "feesOf", "(I)I"⟩
abbrev cX0_ableToSing : ByteArray := prog_2_method_20_code
def yX0_ableToSing : MethodName := ⟨RX0, "ableToSing", "(LLocksBySong$Moment;I)I"⟩
abbrev cX0_chordBits : ByteArray := prog_2_method_21_code
def yX0_chordBits : MethodName := ⟨RX0, "chordBits", "(I)I"⟩
def RX1 : String := "LocksBySong$Choir"
def TX1 : u_T := fun k => match k with
  | 0 => ("LocksBySong$Choir", "canal", "LLocksBySong$Canal;", true)
  | 1 => ("LocksBySong$Choir", "able", "[I", true)
  | _ => ("LocksBySong$Choir", "song", "[I", true)
def tyX1 : Nat → FieldType := fun k => match k with
  | 0 => .object "LocksBySong$Canal"
  | 1 => .array .int
  | _ => .array .int
abbrev wsX10 : List Cond := u_ws RX1 TX1 3
theorem nmX1 : ∀ a, a < 3 → ∀ b, b < 3 → a ≠ b → (TX1 a).2.1 ≠ (TX1 b).2.1 := by decide +kernel
theorem tyX1_ok : ∀ k, k < 3 → parseFieldDescriptor (TX1 k).2.2.1 = some (tyX1 k) := by decide +kernel
abbrev cX1_init : ByteArray := prog_3_method_1_code
def yX1_init : MethodName := ⟨RX1, "<init>", "(LLocksBySong$Canal;)V"⟩
abbrev cX1_gather : ByteArray := prog_3_method_2_code
def yX1_gather : MethodName := ⟨RX1, "gather", "(LLocksBySong$Moment;II)V"⟩
abbrev cX1_placeOf : ByteArray := prog_3_method_3_code
def yX1_placeOf : MethodName := ⟨RX1, "placeOf", "(I)I"⟩
abbrev cX1_canSing : ByteArray := prog_3_method_4_code
def yX1_canSing : MethodName := ⟨RX1, "canSing", "(II)Z"⟩
abbrev cX1_settle : ByteArray := prog_3_method_5_code
def yX1_settle : MethodName := ⟨RX1, "settle", "(I)Z"⟩
abbrev cX1_firstFor : ByteArray := prog_3_method_6_code
def yX1_firstFor : MethodName := ⟨RX1, "firstFor", "(III)I"⟩
abbrev cX1_mostNotes : ByteArray := prog_3_method_7_code
def yX1_mostNotes : MethodName := ⟨RX1, "mostNotes", "(I)I"⟩
abbrev cX1_fewestMissed : ByteArray := prog_3_method_8_code
def yX1_fewestMissed : MethodName := ⟨RX1, "fewestMissed", "(I)I"⟩
def RX2 : String := "LocksBySong$Hiring"
def TX2 : u_T := fun k => match k with
  | 0 => ("LocksBySong$Hiring", "canal", "LLocksBySong$Canal;", true)
  | 1 => ("LocksBySong$Hiring", "choir", "LLocksBySong$Choir;", true)
  | _ => ("LocksBySong$Hiring", "works", "[Z", true)
def tyX2 : Nat → FieldType := fun k => match k with
  | 0 => .object "LocksBySong$Canal"
  | 1 => .object "LocksBySong$Choir"
  | _ => .array .boolean
abbrev wsX20 : List Cond := u_ws RX2 TX2 3
theorem nmX2 : ∀ a, a < 3 → ∀ b, b < 3 → a ≠ b → (TX2 a).2.1 ≠ (TX2 b).2.1 := by decide +kernel
theorem tyX2_ok : ∀ k, k < 3 → parseFieldDescriptor (TX2 k).2.2.1 = some (tyX2 k) := by decide +kernel
abbrev cX2_init : ByteArray := prog_4_method_1_code
def yX2_init : MethodName := ⟨RX2, "<init>", "(LLocksBySong$Canal;LLocksBySong$Choir;)V"⟩
abbrev cX2_begin : ByteArray := prog_4_method_2_code
def yX2_begin : MethodName := ⟨RX2, "begin", "()V"⟩
abbrev cX2_mustSing : ByteArray := prog_4_method_3_code
def yX2_mustSing : MethodName := ⟨RX2, "mustSing", "(LLocksBySong$Moment;III)V"⟩
abbrev cX2_cheapest : ByteArray := prog_4_method_4_code
def yX2_cheapest : MethodName := ⟨RX2, "cheapest", "(I)I"⟩
abbrev cX2_isBetter : ByteArray := prog_4_method_5_code
def yX2_isBetter : MethodName := ⟨RX2, "isBetter", "(II)Z"⟩
def RX3 : String := "LocksBySong$Moment"
def TX3 : u_T := fun k => match k with
  | 0 => ("LocksBySong$Moment", "levels", "I", false)
  | 1 => ("LocksBySong$Moment", "water", "I", false)
  | 2 => ("LocksBySong$Moment", "minute", "I", false)
  | 3 => ("LocksBySong$Moment", "place", "[I", true)
  | 4 => ("LocksBySong$Moment", "boat", "[I", true)
  | 5 => ("LocksBySong$Moment", "tired", "[I", true)
  | 6 => ("LocksBySong$Moment", "berth", "[I", true)
  | _ => ("LocksBySong$Moment", "purse", "[I", true)
def tyX3 : Nat → FieldType := fun k => match k with
  | 0 => .int
  | 1 => .int
  | 2 => .int
  | 3 => .array .int
  | 4 => .array .int
  | 5 => .array .int
  | 6 => .array .int
  | _ => .array .int
abbrev wsX30 : List Cond := u_ws RX3 TX3 8
theorem nmX3 : ∀ a, a < 8 → ∀ b, b < 8 → a ≠ b → (TX3 a).2.1 ≠ (TX3 b).2.1 := by decide +kernel
theorem tyX3_ok : ∀ k, k < 8 → parseFieldDescriptor (TX3 k).2.2.1 = some (tyX3 k) := by decide +kernel
abbrev cX3_init : ByteArray := prog_5_method_1_code
def yX3_init : MethodName := ⟨RX3, "<init>", "()V"⟩
abbrev cX3_copy : ByteArray := prog_5_method_2_code
def yX3_copy : MethodName := ⟨RX3, "copy", "(LLocksBySong$Moment;)V"⟩
abbrev cX3_levelOf : ByteArray := prog_5_method_3_code
def yX3_levelOf : MethodName := ⟨RX3, "levelOf", "(I)I"⟩
abbrev cX3_setLevel : ByteArray := prog_5_method_4_code
def yX3_setLevel : MethodName := ⟨RX3, "setLevel", "(II)V"⟩
abbrev cX3_whereIs : ByteArray := prog_5_method_5_code
def yX3_whereIs : MethodName := ⟨RX3, "whereIs", "(I)I"⟩
abbrev cX3_letGoBy : ByteArray := prog_5_method_6_code
def yX3_letGoBy : MethodName := ⟨RX3, "letGoBy", "(I)V"⟩
def RX4 : String := "LocksBySong$Night"
def TX4 : u_T := fun k => match k with
  | 0 => ("LocksBySong$Night", "canal", "LLocksBySong$Canal;", true)
  | 1 => ("LocksBySong$Night", "apart", "[I", true)
  | 2 => ("LocksBySong$Night", "sung", "I", false)
  | 3 => ("LocksBySong$Night", "unsung", "I", false)
  | 4 => ("LocksBySong$Night", "size", "I", false)
  | _ => ("LocksBySong$Night", "pairs", "I", false)
def tyX4 : Nat → FieldType := fun k => match k with
  | 0 => .object "LocksBySong$Canal"
  | 1 => .array .int
  | 2 => .int
  | 3 => .int
  | 4 => .int
  | _ => .int
abbrev wsX40 : List Cond := u_ws RX4 TX4 6
theorem nmX4 : ∀ a, a < 6 → ∀ b, b < 6 → a ≠ b → (TX4 a).2.1 ≠ (TX4 b).2.1 := by decide +kernel
theorem tyX4_ok : ∀ k, k < 6 → parseFieldDescriptor (TX4 k).2.2.1 = some (tyX4 k) := by decide +kernel
abbrev cX4_init : ByteArray := prog_6_method_1_code
def yX4_init : MethodName := ⟨RX4, "<init>", "(LLocksBySong$Canal;)V"⟩
abbrev cX4_size : ByteArray := prog_6_method_2_code
def yX4_size : MethodName := ⟨RX4, "size", "()I"⟩
abbrev cX4_clear : ByteArray := prog_6_method_3_code
def yX4_clear : MethodName := ⟨RX4, "clear", "()V"⟩
abbrev cX4_note : ByteArray := prog_6_method_4_code
def yX4_note : MethodName := ⟨RX4, "note", "(II)Z"⟩
abbrev cX4_hasInRange : ByteArray := prog_6_method_5_code
def yX4_hasInRange : MethodName := ⟨RX4, "hasInRange", "(II)Z"⟩
abbrev cX4_fitting : ByteArray := prog_6_method_6_code
def yX4_fitting : MethodName := ⟨RX4, "fitting", "()I"⟩
abbrev cX4_leftAtMost : ByteArray := prog_6_method_7_code
def yX4_leftAtMost : MethodName := ⟨RX4, "leftAtMost", "(II)I"⟩
abbrev cX4_parting : ByteArray := prog_6_method_8_code
def yX4_parting : MethodName := ⟨RX4, "parting", "()I"⟩
abbrev cX4_findPairs : ByteArray := prog_6_method_9_code
def yX4_findPairs : MethodName := ⟨RX4, "findPairs", "(I)V"⟩
abbrev cX4_allApart : ByteArray := prog_6_method_10_code
def yX4_allApart : MethodName := ⟨RX4, "allApart", "()Z"⟩
abbrev cX4_markPair : ByteArray := prog_6_method_11_code
def yX4_markPair : MethodName := ⟨RX4, "markPair", "(III)V"⟩
abbrev cX4_partingBy : ByteArray := prog_6_method_12_code
def yX4_partingBy : MethodName := ⟨RX4, "partingBy", "(III)I"⟩
def RX5 : String := "LocksBySong$Numbers"
def TX5 : u_T := fun k => match k with
  | 0 => ("LocksBySong$Numbers", "numbers", "[J", true)
  | _ => ("LocksBySong$Numbers", "size", "I", false)
def tyX5 : Nat → FieldType := fun k => match k with
  | 0 => .array .long
  | _ => .int
abbrev wsX50 : List Cond := u_ws RX5 TX5 2
theorem nmX5 : ∀ a, a < 2 → ∀ b, b < 2 → a ≠ b → (TX5 a).2.1 ≠ (TX5 b).2.1 := by decide +kernel
theorem tyX5_ok : ∀ k, k < 2 → parseFieldDescriptor (TX5 k).2.2.1 = some (tyX5 k) := by decide +kernel
abbrev cX5_init : ByteArray := prog_7_method_1_code
def yX5_init : MethodName := ⟨RX5, "<init>", "()V"⟩
abbrev cX5_size : ByteArray := prog_7_method_2_code
def yX5_size : MethodName := ⟨RX5, "size", "()I"⟩
abbrev cX5_at : ByteArray := prog_7_method_3_code
def yX5_at : MethodName := ⟨RX5, "at", "(I)J"⟩
abbrev cX5_clear : ByteArray := prog_7_method_4_code
def yX5_clear : MethodName := ⟨RX5, "clear", "()V"⟩
abbrev cX5_add : ByteArray := prog_7_method_5_code
def yX5_add : MethodName := ⟨RX5, "add", "(J)V"⟩
abbrev cX5_tell : ByteArray := prog_7_method_6_code
def yX5_tell : MethodName := ⟨RX5, "tell", "(J)V"⟩
def RX6 : String := "LocksBySong$Past"
def TX6 : u_T := fun k => match k with
  | 0 => ("LocksBySong$Past", "moments", "[LLocksBySong$Moment;", true)
  | 1 => ("LocksBySong$Past", "first", "I", false)
  | _ => ("LocksBySong$Past", "size", "I", false)
def tyX6 : Nat → FieldType := fun k => match k with
  | 0 => .array (.object "LocksBySong$Moment")
  | 1 => .int
  | _ => .int
abbrev wsX60 : List Cond := u_ws RX6 TX6 3
theorem nmX6 : ∀ a, a < 3 → ∀ b, b < 3 → a ≠ b → (TX6 a).2.1 ≠ (TX6 b).2.1 := by decide +kernel
theorem tyX6_ok : ∀ k, k < 3 → parseFieldDescriptor (TX6 k).2.2.1 = some (tyX6 k) := by decide +kernel
abbrev cX6_init : ByteArray := prog_8_method_1_code
def yX6_init : MethodName := ⟨RX6, "<init>", "()V"⟩
abbrev cX6_size : ByteArray := prog_8_method_2_code
def yX6_size : MethodName := ⟨RX6, "size", "()I"⟩
abbrev cX6_clear : ByteArray := prog_8_method_3_code
def yX6_clear : MethodName := ⟨RX6, "clear", "()V"⟩
abbrev cX6_add : ByteArray := prog_8_method_4_code
def yX6_add : MethodName := ⟨RX6, "add", "(LLocksBySong$Moment;)V"⟩
abbrev cX6_takeBack : ByteArray := prog_8_method_5_code
def yX6_takeBack : MethodName := ⟨RX6, "takeBack", "(LLocksBySong$Moment;)Z"⟩
def RX7 : String := "LocksBySong$Rule"
def TX7 : u_T := fun k => match k with
  | 0 => ("LocksBySong$Rule", "code", "[I", true)
  | 1 => ("LocksBySong$Rule", "draft", "[I", true)
  | 2 => ("LocksBySong$Rule", "stack", "[I", true)
  | 3 => ("LocksBySong$Rule", "things", "[I", true)
  | 4 => ("LocksBySong$Rule", "size", "I", false)
  | _ => ("LocksBySong$Rule", "drafted", "I", false)
def tyX7 : Nat → FieldType := fun k => match k with
  | 0 => .array .int
  | 1 => .array .int
  | 2 => .array .int
  | 3 => .array .int
  | 4 => .int
  | _ => .int
abbrev wsX70 : List Cond := u_ws RX7 TX7 6
theorem nmX7 : ∀ a, a < 6 → ∀ b, b < 6 → a ≠ b → (TX7 a).2.1 ≠ (TX7 b).2.1 := by decide +kernel
theorem tyX7_ok : ∀ k, k < 6 → parseFieldDescriptor (TX7 k).2.2.1 = some (tyX7 k) := by decide +kernel
abbrev cX7_init : ByteArray := prog_9_method_1_code
def yX7_init : MethodName := ⟨RX7, "<init>", "()V"⟩
abbrev cX7_read : ByteArray := prog_9_method_2_code
def yX7_read : MethodName := ⟨RX7, "read", "(LLocksBySong$Script;)I"⟩
abbrev cX7_put : ByteArray := prog_9_method_3_code
def yX7_put : MethodName := ⟨RX7, "put", "(II)V"⟩
abbrev cX7_minutes : ByteArray := prog_9_method_4_code
def yX7_minutes : MethodName := ⟨RX7, "minutes", "()I"⟩
abbrev cX7_comparison : ByteArray := prog_9_method_5_code
def yX7_comparison : MethodName := ⟨RX7, "comparison", "(LLocksBySong$Script;I)Z"⟩
abbrev cX7_sum : ByteArray := prog_9_method_6_code
def yX7_sum : MethodName := ⟨RX7, "sum", "(LLocksBySong$Script;I)Z"⟩
abbrev cX7_product : ByteArray := prog_9_method_7_code
def yX7_product : MethodName := ⟨RX7, "product", "(LLocksBySong$Script;I)Z"⟩
abbrev cX7_negated : ByteArray := prog_9_method_8_code
def yX7_negated : MethodName := ⟨RX7, "negated", "(LLocksBySong$Script;I)Z"⟩
abbrev cX7_thing : ByteArray := prog_9_method_9_code
def yX7_thing : MethodName := ⟨RX7, "thing", "(LLocksBySong$Script;I)Z"⟩
abbrev cX7_emit : ByteArray := prog_9_method_10_code
def yX7_emit : MethodName := ⟨RX7, "emit", "(I)Z"⟩
abbrev cX7_worth : ByteArray := prog_9_method_11_code
def yX7_worth : MethodName := ⟨RX7, "worth", "()I"⟩
abbrev cX7_joined : ByteArray := prog_9_method_12_code
def yX7_joined : MethodName := ⟨RX7, "joined", "(III)I"⟩
def RX8 : String := "LocksBySong$Script"
def TX8 : u_T := fun k => match k with
  | 0 => ("LocksBySong$Script", "signs", "[I", true)
  | 1 => ("LocksBySong$Script", "size", "I", false)
  | 2 => ("LocksBySong$Script", "cursor", "I", false)
  | _ => ("LocksBySong$Script", "bound", "I", false)
def tyX8 : Nat → FieldType := fun k => match k with
  | 0 => .array .int
  | 1 => .int
  | 2 => .int
  | _ => .int
abbrev wsX80 : List Cond := u_ws RX8 TX8 4
theorem nmX8 : ∀ a, a < 4 → ∀ b, b < 4 → a ≠ b → (TX8 a).2.1 ≠ (TX8 b).2.1 := by decide +kernel
theorem tyX8_ok : ∀ k, k < 4 → parseFieldDescriptor (TX8 k).2.2.1 = some (tyX8 k) := by decide +kernel
abbrev cX8_init : ByteArray := prog_10_method_1_code
def yX8_init : MethodName := ⟨RX8, "<init>", "()V"⟩
abbrev cX8_length : ByteArray := prog_10_method_2_code
def yX8_length : MethodName := ⟨RX8, "length", "()I"⟩
abbrev cX8_addFour : ByteArray := prog_10_method_3_code
def yX8_addFour : MethodName := ⟨RX8, "addFour", "(I)Z"⟩
abbrev cX8_cutTo : ByteArray := prog_10_method_4_code
def yX8_cutTo : MethodName := ⟨RX8, "cutTo", "(I)Z"⟩
abbrev cX8_clear : ByteArray := prog_10_method_5_code
def yX8_clear : MethodName := ⟨RX8, "clear", "()V"⟩
abbrev cX8_open : ByteArray := prog_10_method_6_code
def yX8_open : MethodName := ⟨RX8, "open", "(I)V"⟩
abbrev cX8_look : ByteArray := prog_10_method_7_code
def yX8_look : MethodName := ⟨RX8, "look", "()I"⟩
abbrev cX8_step : ByteArray := prog_10_method_8_code
def yX8_step : MethodName := ⟨RX8, "step", "()V"⟩
abbrev cX8_over : ByteArray := prog_10_method_9_code
def yX8_over : MethodName := ⟨RX8, "over", "()Z"⟩
abbrev cX8_fault : ByteArray := prog_10_method_10_code
def yX8_fault : MethodName := ⟨RX8, "fault", "()I"⟩
abbrev cX8_take : ByteArray := prog_10_method_11_code
def yX8_take : MethodName := ⟨RX8, "take", "(II)I"⟩
abbrev cX8_takeNumber : ByteArray := prog_10_method_12_code
def yX8_takeNumber : MethodName := ⟨RX8, "takeNumber", "(I)I"⟩
def RX9 : String := "LocksBySong$Voyage"
def TX9 : u_T := fun k => match k with
  | 0 => ("LocksBySong$Voyage", "canal", "LLocksBySong$Canal;", true)
  | 1 => ("LocksBySong$Voyage", "choir", "LLocksBySong$Choir;", true)
  | 2 => ("LocksBySong$Voyage", "upChord", "[I", true)
  | 3 => ("LocksBySong$Voyage", "downChord", "[I", true)
  | _ => ("LocksBySong$Voyage", "passed", "I", false)
def tyX9 : Nat → FieldType := fun k => match k with
  | 0 => .object "LocksBySong$Canal"
  | 1 => .object "LocksBySong$Choir"
  | 2 => .array .int
  | 3 => .array .int
  | _ => .int
abbrev wsX90 : List Cond := u_ws RX9 TX9 5
theorem nmX9 : ∀ a, a < 5 → ∀ b, b < 5 → a ≠ b → (TX9 a).2.1 ≠ (TX9 b).2.1 := by decide +kernel
theorem tyX9_ok : ∀ k, k < 5 → parseFieldDescriptor (TX9 k).2.2.1 = some (tyX9 k) := by decide +kernel
abbrev cX9_init : ByteArray := prog_11_method_1_code
def yX9_init : MethodName := ⟨RX9, "<init>", "(LLocksBySong$Canal;LLocksBySong$Choir;)V"⟩
abbrev cX9_way : ByteArray := prog_11_method_2_code
def yX9_way : MethodName := ⟨RX9, "way", "(LLocksBySong$Moment;II)I"⟩
abbrev cX9_lockAhead : ByteArray := prog_11_method_3_code
def yX9_lockAhead : MethodName := ⟨RX9, "lockAhead", "(LLocksBySong$Moment;II)I"⟩
abbrev cX9_hindrance : ByteArray := prog_11_method_4_code
def yX9_hindrance : MethodName := ⟨RX9, "hindrance", "(LLocksBySong$Moment;II)I"⟩
abbrev cX9_waterFor : ByteArray := prog_11_method_5_code
def yX9_waterFor : MethodName := ⟨RX9, "waterFor", "(LLocksBySong$Moment;II)I"⟩
abbrev cX9_go : ByteArray := prog_11_method_6_code
def yX9_go : MethodName := ⟨RX9, "go", "(LLocksBySong$Moment;II)I"⟩
abbrev cX9_minutesFor : ByteArray := prog_11_method_7_code
def yX9_minutesFor : MethodName := ⟨RX9, "minutesFor", "(LLocksBySong$Moment;III)I"⟩
abbrev cX9_travel : ByteArray := prog_11_method_8_code
def yX9_travel : MethodName := ⟨RX9, "travel", "(LLocksBySong$Moment;II)I"⟩
abbrev cX9_findWays : ByteArray := prog_11_method_9_code
def yX9_findWays : MethodName := ⟨RX9, "findWays", "(LLocksBySong$Moment;)V"⟩
abbrev cX9_chordAhead : ByteArray := prog_11_method_10_code
def yX9_chordAhead : MethodName := ⟨RX9, "chordAhead", "(LLocksBySong$Moment;II)I"⟩
abbrev cX9_keptBy : ByteArray := prog_11_method_11_code
def yX9_keptBy : MethodName := ⟨RX9, "keptBy", "(I)I"⟩
def RX10 : String := "LocksBySong$Waiting"
def TX10 : u_T := fun k => match k with
  | 0 => ("LocksBySong$Waiting", "ups", "[I", true)
  | 1 => ("LocksBySong$Waiting", "downs", "[I", true)
  | 2 => ("LocksBySong$Waiting", "costs", "[I", true)
  | 3 => ("LocksBySong$Waiting", "upCount", "I", false)
  | _ => ("LocksBySong$Waiting", "downCount", "I", false)
def tyX10 : Nat → FieldType := fun k => match k with
  | 0 => .array .int
  | 1 => .array .int
  | 2 => .array .int
  | 3 => .int
  | _ => .int
abbrev wsX100 : List Cond := u_ws RX10 TX10 5
theorem nmX10 : ∀ a, a < 5 → ∀ b, b < 5 → a ≠ b → (TX10 a).2.1 ≠ (TX10 b).2.1 := by decide +kernel
theorem tyX10_ok : ∀ k, k < 5 → parseFieldDescriptor (TX10 k).2.2.1 = some (tyX10 k) := by decide +kernel
abbrev cX10_init : ByteArray := prog_12_method_1_code
def yX10_init : MethodName := ⟨RX10, "<init>", "()V"⟩
abbrev cX10_read : ByteArray := prog_12_method_2_code
def yX10_read : MethodName := ⟨RX10, "read", "(LLocksBySong$Script;)I"⟩
abbrev cX10_order : ByteArray := prog_12_method_3_code
def yX10_order : MethodName := ⟨RX10, "order", "(ILLocksBySong$Numbers;)I"⟩
abbrev cX10_goesUpNext : ByteArray := prog_12_method_4_code
def yX10_goesUpNext : MethodName := ⟨RX10, "goesUpNext", "(III)Z"⟩
abbrev cX10_findCosts : ByteArray := prog_12_method_5_code
def yX10_findCosts : MethodName := ⟨RX10, "findCosts", "()V"⟩
abbrev cX10_costNext : ByteArray := prog_12_method_6_code
def yX10_costNext : MethodName := ⟨RX10, "costNext", "(III)I"⟩
abbrev cX10_upCost : ByteArray := prog_12_method_7_code
def yX10_upCost : MethodName := ⟨RX10, "upCost", "(III)I"⟩
abbrev cX10_downCost : ByteArray := prog_12_method_8_code
def yX10_downCost : MethodName := ⟨RX10, "downCost", "(III)I"⟩
abbrev cX10_costAfter : ByteArray := prog_12_method_9_code
def yX10_costAfter : MethodName := ⟨RX10, "costAfter", "(III)I"⟩
abbrev cX10_slot : ByteArray := prog_12_method_10_code
def yX10_slot : MethodName := ⟨RX10, "slot", "(III)I"⟩
def RX11 : String := "LocksBySong"
def TX11 : u_T := fun k => match k with
  | 0 => ("LocksBySong", "text", "LLocksBySong$Script;", true)
  | 1 => ("LocksBySong", "told", "LLocksBySong$Numbers;", true)
  | 2 => ("LocksBySong", "canal", "LLocksBySong$Canal;", true)
  | 3 => ("LocksBySong", "now", "LLocksBySong$Moment;", true)
  | 4 => ("LocksBySong", "before", "LLocksBySong$Moment;", true)
  | 5 => ("LocksBySong", "trial", "LLocksBySong$Moment;", true)
  | 6 => ("LocksBySong", "choir", "LLocksBySong$Choir;", true)
  | 7 => ("LocksBySong", "voyage", "LLocksBySong$Voyage;", true)
  | 8 => ("LocksBySong", "hiring", "LLocksBySong$Hiring;", true)
  | 9 => ("LocksBySong", "night", "LLocksBySong$Night;", true)
  | 10 => ("LocksBySong", "waiting", "LLocksBySong$Waiting;", true)
  | 11 => ("LocksBySong", "past", "LLocksBySong$Past;", true)
  | 12 => ("LocksBySong", "kept", "[LLocksBySong$Moment;", true)
  | 13 => ("LocksBySong", "acts", "[I", true)
  | _ => ("LocksBySong", "keptBits", "I", false)
def tyX11 : Nat → FieldType := fun k => match k with
  | 0 => .object "LocksBySong$Script"
  | 1 => .object "LocksBySong$Numbers"
  | 2 => .object "LocksBySong$Canal"
  | 3 => .object "LocksBySong$Moment"
  | 4 => .object "LocksBySong$Moment"
  | 5 => .object "LocksBySong$Moment"
  | 6 => .object "LocksBySong$Choir"
  | 7 => .object "LocksBySong$Voyage"
  | 8 => .object "LocksBySong$Hiring"
  | 9 => .object "LocksBySong$Night"
  | 10 => .object "LocksBySong$Waiting"
  | 11 => .object "LocksBySong$Past"
  | 12 => .array (.object "LocksBySong$Moment")
  | 13 => .array .int
  | _ => .int
abbrev wsX110 : List Cond := u_ws RX11 TX11 15
theorem nmX11 : ∀ a, a < 15 → ∀ b, b < 15 → a ≠ b → (TX11 a).2.1 ≠ (TX11 b).2.1 := by decide +kernel
theorem tyX11_ok : ∀ k, k < 15 → parseFieldDescriptor (TX11 k).2.2.1 = some (tyX11 k) := by decide +kernel
abbrev cX11_init : ByteArray := prog_1_method_1_code
def yX11_init : MethodName := ⟨RX11, "<init>", "()V"⟩
abbrev cX11_sign : ByteArray := prog_1_method_2_code
def yX11_sign : MethodName := ⟨RX11, "sign", "(I)I"⟩
abbrev cX11_end : ByteArray := prog_1_method_3_code
def yX11_end : MethodName := ⟨RX11, "end", "(I)Z"⟩
abbrev cX11_locks : ByteArray := prog_1_method_4_code
def yX11_locks : MethodName := ⟨RX11, "locks", "()I"⟩
abbrev cX11_singers : ByteArray := prog_1_method_5_code
def yX11_singers : MethodName := ⟨RX11, "singers", "()I"⟩
abbrev cX11_barges : ByteArray := prog_1_method_6_code
def yX11_barges : MethodName := ⟨RX11, "barges", "()I"⟩
abbrev cX11_rule : ByteArray := prog_1_method_7_code
def yX11_rule : MethodName := ⟨RX11, "rule", "()I"⟩
abbrev cX11_lock : ByteArray := prog_1_method_8_code
def yX11_lock : MethodName := ⟨RX11, "lock", "(II)I"⟩
abbrev cX11_singer : ByteArray := prog_1_method_9_code
def yX11_singer : MethodName := ⟨RX11, "singer", "(II)I"⟩
abbrev cX11_barge : ByteArray := prog_1_method_10_code
def yX11_barge : MethodName := ⟨RX11, "barge", "(II)I"⟩
abbrev cX11_set : ByteArray := prog_1_method_11_code
def yX11_set : MethodName := ⟨RX11, "set", "(II)I"⟩
abbrev cX11_sheet : ByteArray := prog_1_method_12_code
def yX11_sheet : MethodName := ⟨RX11, "sheet", "(IIII)I"⟩
abbrev cX11_tellOf : ByteArray := prog_1_method_13_code
def yX11_tellOf : MethodName := ⟨RX11, "tellOf", "(II)I"⟩
abbrev cX11_readLines : ByteArray := prog_1_method_14_code
def yX11_readLines : MethodName := ⟨RX11, "readLines", "(I)I"⟩
abbrev cX11_hire : ByteArray := prog_1_method_15_code
def yX11_hire : MethodName := ⟨RX11, "hire", "(II)I"⟩
abbrev cX11_leave : ByteArray := prog_1_method_16_code
def yX11_leave : MethodName := ⟨RX11, "leave", "(I)I"⟩
abbrev cX11_pass : ByteArray := prog_1_method_17_code
def yX11_pass : MethodName := ⟨RX11, "pass", "(II)I"⟩
abbrev cX11_rest : ByteArray := prog_1_method_18_code
def yX11_rest : MethodName := ⟨RX11, "rest", "(I)I"⟩
abbrev cX11_day : ByteArray := prog_1_method_19_code
def yX11_day : MethodName := ⟨RX11, "day", "()I"⟩
abbrev cX11_undo : ByteArray := prog_1_method_20_code
def yX11_undo : MethodName := ⟨RX11, "undo", "()I"⟩
abbrev cX11_remember : ByteArray := prog_1_method_21_code
def yX11_remember : MethodName := ⟨RX11, "remember", "(I)I"⟩
abbrev cX11_takeOn : ByteArray := prog_1_method_22_code
def yX11_takeOn : MethodName := ⟨RX11, "takeOn", "(II)I"⟩
abbrev cX11_letGo : ByteArray := prog_1_method_23_code
def yX11_letGo : MethodName := ⟨RX11, "letGo", "(I)I"⟩
abbrev cX11_takeRest : ByteArray := prog_1_method_24_code
def yX11_takeRest : MethodName := ⟨RX11, "takeRest", "(I)I"⟩
abbrev cX11_readActs : ByteArray := prog_1_method_25_code
def yX11_readActs : MethodName := ⟨RX11, "readActs", "()I"⟩
abbrev cX11_readAct : ByteArray := prog_1_method_26_code
def yX11_readAct : MethodName := ⟨RX11, "readAct", "()I"⟩
abbrev cX11_isPass : ByteArray := prog_1_method_27_code
def yX11_isPass : MethodName := ⟨RX11, "isPass", "(I)Z"⟩
abbrev cX11_perform : ByteArray := prog_1_method_28_code
def yX11_perform : MethodName := ⟨RX11, "perform", "(I)I"⟩
abbrev cX11_sings : ByteArray := prog_1_method_29_code
def yX11_sings : MethodName := ⟨RX11, "sings", "(II)I"⟩
abbrev cX11_lacks : ByteArray := prog_1_method_30_code
def yX11_lacks : MethodName := ⟨RX11, "lacks", "(II)I"⟩
abbrev cX11_spoils : ByteArray := prog_1_method_31_code
def yX11_spoils : MethodName := ⟨RX11, "spoils", "(II)I"⟩
abbrev cX11_shift : ByteArray := prog_1_method_32_code
def yX11_shift : MethodName := ⟨RX11, "shift", "(II)I"⟩
abbrev cX11_voices : ByteArray := prog_1_method_33_code
def yX11_voices : MethodName := ⟨RX11, "voices", "(II)I"⟩
abbrev cX11_singsShifted : ByteArray := prog_1_method_34_code
def yX11_singsShifted : MethodName := ⟨RX11, "singsShifted", "(III)Z"⟩
abbrev cX11_tellSong : ByteArray := prog_1_method_35_code
def yX11_tellSong : MethodName := ⟨RX11, "tellSong", "()V"⟩
abbrev cX11_tellHired : ByteArray := prog_1_method_36_code
def yX11_tellHired : MethodName := ⟨RX11, "tellHired", "(I)I"⟩
abbrev cX11_journey : ByteArray := prog_1_method_37_code
def yX11_journey : MethodName := ⟨RX11, "journey", "(II)I"⟩
abbrev cX11_hires : ByteArray := prog_1_method_38_code
def yX11_hires : MethodName := ⟨RX11, "hires", "(II)I"⟩
abbrev cX11_rested : ByteArray := prog_1_method_39_code
def yX11_rested : MethodName := ⟨RX11, "rested", "(II)I"⟩
abbrev cX11_queue : ByteArray := prog_1_method_40_code
def yX11_queue : MethodName := ⟨RX11, "queue", "(I)I"⟩
abbrev cX11_jams : ByteArray := prog_1_method_41_code
def yX11_jams : MethodName := ⟨RX11, "jams", "()I"⟩
abbrev cX11_heard : ByteArray := prog_1_method_42_code
def yX11_heard : MethodName := ⟨RX11, "heard", "(II)I"⟩
abbrev cX11_forget : ByteArray := prog_1_method_43_code
def yX11_forget : MethodName := ⟨RX11, "forget", "()I"⟩
abbrev cX11_who : ByteArray := prog_1_method_44_code
def yX11_who : MethodName := ⟨RX11, "who", "()I"⟩
abbrev cX11_listen : ByteArray := prog_1_method_45_code
def yX11_listen : MethodName := ⟨RX11, "listen", "()I"⟩
abbrev cX11_parts : ByteArray := prog_1_method_46_code
def yX11_parts : MethodName := ⟨RX11, "parts", "()I"⟩
abbrev cX11_opens : ByteArray := prog_1_method_47_code
def yX11_opens : MethodName := ⟨RX11, "opens", "(II)I"⟩
abbrev cX11_tries : ByteArray := prog_1_method_48_code
def yX11_tries : MethodName := ⟨RX11, "tries", "(II)I"⟩
abbrev cX11_rests : ByteArray := prog_1_method_49_code
def yX11_rests : MethodName := ⟨RX11, "rests", "(I)I"⟩
abbrev cX11_pays : ByteArray := prog_1_method_50_code
def yX11_pays : MethodName := ⟨RX11, "pays", "(II)I"⟩
abbrev cX11_tellFirstPair : ByteArray := prog_1_method_51_code
def yX11_tellFirstPair : MethodName := ⟨RX11, "tellFirstPair", "(III)V"⟩
abbrev cX11_chances : ByteArray := prog_1_method_52_code
def yX11_chances : MethodName := ⟨RX11, "chances", "(II)J"⟩
abbrev cX11_power : ByteArray := prog_1_method_53_code
def yX11_power : MethodName := ⟨RX11, "power", "(JI)J"⟩
abbrev cX11_commonDivisor : ByteArray := prog_1_method_54_code
def yX11_commonDivisor : MethodName := ⟨RX11, "commonDivisor", "(JJ)J"⟩
abbrev cX11_isBest : ByteArray := prog_1_method_55_code
def yX11_isBest : MethodName := ⟨RX11, "isBest", "(III)Z"⟩
abbrev cX11_gain : ByteArray := prog_1_method_56_code
def yX11_gain : MethodName := ⟨RX11, "gain", "(III)I"⟩
abbrev cX11_days : ByteArray := prog_1_method_57_code
def yX11_days : MethodName := ⟨RX11, "days", "(II)I"⟩
abbrev cX11_drawNext : ByteArray := prog_1_method_58_code
def yX11_drawNext : MethodName := ⟨RX11, "drawNext", "(I)I"⟩
abbrev cX11_keep : ByteArray := prog_1_method_59_code
def yX11_keep : MethodName := ⟨RX11, "keep", "(I)Z"⟩
abbrev cX11_again : ByteArray := prog_1_method_60_code
def yX11_again : MethodName := ⟨RX11, "again", "(I)Z"⟩
abbrev cX11_count : ByteArray := prog_1_method_61_code
def yX11_count : MethodName := ⟨RX11, "count", "(I)I"⟩
abbrev cX11_row : ByteArray := prog_1_method_62_code
def yX11_row : MethodName := ⟨RX11, "row", "(I)J"⟩
def RX12 : String := "LocksBySongModel"
def TX12 : u_T := fun k => match k with
  | 0 => ("LocksBySongModel", "thrown", "I", false)
  | 1 => ("LocksBySongModel", "rows", "I", false)
  | 2 => ("LocksBySongModel", "row", "[J", true)
  | 3 => ("LocksBySongModel", "locks", "I", false)
  | 4 => ("LocksBySongModel", "singers", "I", false)
  | 5 => ("LocksBySongModel", "barges", "I", false)
  | 6 => ("LocksBySongModel", "jammed", "I", false)
  | 7 => ("LocksBySongModel", "changes", "I", false)
  | 8 => ("LocksBySongModel", "chord", "[I", true)
  | 9 => ("LocksBySongModel", "held", "[I", true)
  | 10 => ("LocksBySongModel", "low", "[I", true)
  | 11 => ("LocksBySongModel", "high", "[I", true)
  | 12 => ("LocksBySongModel", "fee", "[I", true)
  | 13 => ("LocksBySongModel", "load", "[I", true)
  | 14 => ("LocksBySongModel", "now", "[I", true)
  | 15 => ("LocksBySongModel", "then", "[I", true)
  | 16 => ("LocksBySongModel", "tape", "[I", true)
  | 17 => ("LocksBySongModel", "taped", "I", false)
  | 18 => ("LocksBySongModel", "at", "I", false)
  | 19 => ("LocksBySongModel", "to", "I", false)
  | 20 => ("LocksBySongModel", "nest", "I", false)
  | 21 => ("LocksBySongModel", "read", "[I", true)
  | 22 => ("LocksBySongModel", "readMany", "I", false)
  | 23 => ("LocksBySongModel", "code", "[I", true)
  | 24 => ("LocksBySongModel", "readCode", "[I", true)
  | 25 => ("LocksBySongModel", "codeLong", "I", false)
  | 26 => ("LocksBySongModel", "readLong", "I", false)
  | 27 => ("LocksBySongModel", "stack", "[I", true)
  | 28 => ("LocksBySongModel", "asked", "[I", true)
  | 29 => ("LocksBySongModel", "notes", "[I", true)
  | 30 => ("LocksBySongModel", "sung", "[I", true)
  | 31 => ("LocksBySongModel", "undos", "I", false)
  | 32 => ("LocksBySongModel", "undone", "[I", true)
  | 33 => ("LocksBySongModel", "actSign", "[I", true)
  | 34 => ("LocksBySongModel", "actOne", "[I", true)
  | 35 => ("LocksBySongModel", "actTwo", "[I", true)
  | 36 => ("LocksBySongModel", "acts", "I", false)
  | 37 => ("LocksBySongModel", "passedMany", "I", false)
  | 38 => ("LocksBySongModel", "gone", "I", false)
  | 39 => ("LocksBySongModel", "stuckBy", "I", false)
  | 40 => ("LocksBySongModel", "ups", "[I", true)
  | 41 => ("LocksBySongModel", "downs", "[I", true)
  | 42 => ("LocksBySongModel", "upMany", "I", false)
  | 43 => ("LocksBySongModel", "downMany", "I", false)
  | 44 => ("LocksBySongModel", "yet", "[I", true)
  | 45 => ("LocksBySongModel", "sounds", "I", false)
  | 46 => ("LocksBySongModel", "soundNote", "[I", true)
  | 47 => ("LocksBySongModel", "soundIs", "[I", true)
  | 48 => ("LocksBySongModel", "up", "J", false)
  | 49 => ("LocksBySongModel", "down", "J", false)
  | 50 => ("LocksBySongModel", "isKept", "[Z", true)
  | 51 => ("LocksBySongModel", "keptChanges", "[I", true)
  | _ => ("LocksBySongModel", "kept", "[I", true)
def tyX12 : Nat → FieldType := fun k => match k with
  | 0 => .int
  | 1 => .int
  | 2 => .array .long
  | 3 => .int
  | 4 => .int
  | 5 => .int
  | 6 => .int
  | 7 => .int
  | 8 => .array .int
  | 9 => .array .int
  | 10 => .array .int
  | 11 => .array .int
  | 12 => .array .int
  | 13 => .array .int
  | 14 => .array .int
  | 15 => .array .int
  | 16 => .array .int
  | 17 => .int
  | 18 => .int
  | 19 => .int
  | 20 => .int
  | 21 => .array .int
  | 22 => .int
  | 23 => .array .int
  | 24 => .array .int
  | 25 => .int
  | 26 => .int
  | 27 => .array .int
  | 28 => .array .int
  | 29 => .array .int
  | 30 => .array .int
  | 31 => .int
  | 32 => .array .int
  | 33 => .array .int
  | 34 => .array .int
  | 35 => .array .int
  | 36 => .int
  | 37 => .int
  | 38 => .int
  | 39 => .int
  | 40 => .array .int
  | 41 => .array .int
  | 42 => .int
  | 43 => .int
  | 44 => .array .int
  | 45 => .int
  | 46 => .array .int
  | 47 => .array .int
  | 48 => .long
  | 49 => .long
  | 50 => .array .boolean
  | 51 => .array .int
  | _ => .array .int
abbrev wsX120 : List Cond := u_ws RX12 TX12 53
theorem nmX12 : ∀ a, a < 53 → ∀ b, b < 53 → a ≠ b → (TX12 a).2.1 ≠ (TX12 b).2.1 := by decide +kernel
theorem tyX12_ok : ∀ k, k < 53 → parseFieldDescriptor (TX12 k).2.2.1 = some (tyX12 k) := by decide +kernel
abbrev cX12_init : ByteArray := prog_14_method_1_code
def yX12_init : MethodName := ⟨RX12, "<init>", "()V"⟩
abbrev cX12_thrown : ByteArray := prog_14_method_2_code
def yX12_thrown : MethodName := ⟨RX12, "thrown", "()I"⟩
abbrev cX12_refuse : ByteArray := prog_14_method_3_code
def yX12_refuse : MethodName := ⟨RX12, "refuse", "()I"⟩
abbrev cX12_in : ByteArray := prog_14_method_4_code
def yX12_in : MethodName := ⟨RX12, "in", "(JJJ)Z"⟩
abbrev cX12_has : ByteArray := prog_14_method_5_code
def yX12_has : MethodName := ⟨RX12, "has", "(II)Z"⟩
abbrev cX12_flag : ByteArray := prog_14_method_6_code
def yX12_flag : MethodName := ⟨RX12, "flag", "(Z)I"⟩
abbrev cX12_common : ByteArray := prog_14_method_7_code
def yX12_common : MethodName := ⟨RX12, "common", "(JJ)J"⟩
abbrev cX12_enters : ByteArray := prog_14_method_8_code
def yX12_enters : MethodName := ⟨RX12, "enters", "(J)V"⟩
abbrev cX12_isLock : ByteArray := prog_14_method_9_code
def yX12_isLock : MethodName := ⟨RX12, "isLock", "(I)Z"⟩
abbrev cX12_isSinger : ByteArray := prog_14_method_10_code
def yX12_isSinger : MethodName := ⟨RX12, "isSinger", "(I)Z"⟩
abbrev cX12_isBarge : ByteArray := prog_14_method_11_code
def yX12_isBarge : MethodName := ⟨RX12, "isBarge", "(I)Z"⟩
abbrev cX12_isPlace : ByteArray := prog_14_method_12_code
def yX12_isPlace : MethodName := ⟨RX12, "isPlace", "(I)Z"⟩
abbrev cX12_placeOf : ByteArray := prog_14_method_13_code
def yX12_placeOf : MethodName := ⟨RX12, "placeOf", "([II)I"⟩
abbrev cX12_crewOf : ByteArray := prog_14_method_14_code
def yX12_crewOf : MethodName := ⟨RX12, "crewOf", "([II)I"⟩
abbrev cX12_tiredOf : ByteArray := prog_14_method_15_code
def yX12_tiredOf : MethodName := ⟨RX12, "tiredOf", "([II)I"⟩
abbrev cX12_crew : ByteArray := prog_14_method_16_code
def yX12_crew : MethodName := ⟨RX12, "crew", "([II)I"⟩
abbrev cX12_whereIs : ByteArray := prog_14_method_17_code
def yX12_whereIs : MethodName := ⟨RX12, "whereIs", "(I)I"⟩
abbrev cX12_sign : ByteArray := prog_14_method_18_code
def yX12_sign : MethodName := ⟨RX12, "sign", "(I)I"⟩
abbrev cX12_end : ByteArray := prog_14_method_19_code
def yX12_end : MethodName := ⟨RX12, "end", "(I)Z"⟩
abbrev cX12_begins : ByteArray := prog_14_method_20_code
def yX12_begins : MethodName := ⟨RX12, "begins", "(I)I"⟩
abbrev cX12_takes : ByteArray := prog_14_method_21_code
def yX12_takes : MethodName := ⟨RX12, "takes", "(I)Z"⟩
abbrev cX12_isDigit : ByteArray := prog_14_method_22_code
def yX12_isDigit : MethodName := ⟨RX12, "isDigit", "()Z"⟩
abbrev cX12_among : ByteArray := prog_14_method_23_code
def yX12_among : MethodName := ⟨RX12, "among", "(Ljava/lang/String;)I"⟩
abbrev cX12_takesOf : ByteArray := prog_14_method_24_code
def yX12_takesOf : MethodName := ⟨RX12, "takesOf", "(Ljava/lang/String;)I"⟩
abbrev cX12_number : ByteArray := prog_14_method_25_code
def yX12_number : MethodName := ⟨RX12, "number", "(I)I"⟩
abbrev cX12_signIn : ByteArray := prog_14_method_26_code
def yX12_signIn : MethodName := ⟨RX12, "signIn", "(III)I"⟩
abbrev cX12_faultOf : ByteArray := prog_14_method_27_code
def yX12_faultOf : MethodName := ⟨RX12, "faultOf", "(IIZ)I"⟩
abbrev cX12_readsLock : ByteArray := prog_14_method_28_code
def yX12_readsLock : MethodName := ⟨RX12, "readsLock", "()Z"⟩
abbrev cX12_readsSinger : ByteArray := prog_14_method_29_code
def yX12_readsSinger : MethodName := ⟨RX12, "readsSinger", "()Z"⟩
abbrev cX12_readsBarge : ByteArray := prog_14_method_30_code
def yX12_readsBarge : MethodName := ⟨RX12, "readsBarge", "()Z"⟩
abbrev cX12_readsLines : ByteArray := prog_14_method_31_code
def yX12_readsLines : MethodName := ⟨RX12, "readsLines", "(II)I"⟩
abbrev cX12_came : ByteArray := prog_14_method_32_code
def yX12_came : MethodName := ⟨RX12, "came", "()I"⟩
abbrev cX12_locks : ByteArray := prog_14_method_33_code
def yX12_locks : MethodName := ⟨RX12, "locks", "()I"⟩
abbrev cX12_singers : ByteArray := prog_14_method_34_code
def yX12_singers : MethodName := ⟨RX12, "singers", "()I"⟩
abbrev cX12_barges : ByteArray := prog_14_method_35_code
def yX12_barges : MethodName := ⟨RX12, "barges", "()I"⟩
abbrev cX12_codes : ByteArray := prog_14_method_36_code
def yX12_codes : MethodName := ⟨RX12, "codes", "(I)V"⟩
abbrev cX12_readsThing : ByteArray := prog_14_method_37_code
def yX12_readsThing : MethodName := ⟨RX12, "readsThing", "()Z"⟩
abbrev cX12_readsRank : ByteArray := prog_14_method_38_code
def yX12_readsRank : MethodName := ⟨RX12, "readsRank", "(I)Z"⟩
abbrev cX12_rule : ByteArray := prog_14_method_39_code
def yX12_rule : MethodName := ⟨RX12, "rule", "()I"⟩
abbrev cX12_worked : ByteArray := prog_14_method_40_code
def yX12_worked : MethodName := ⟨RX12, "worked", "(III)I"⟩
abbrev cX12_ruled : ByteArray := prog_14_method_41_code
def yX12_ruled : MethodName := ⟨RX12, "ruled", "()I"⟩
abbrev cX12_tiredAll : ByteArray := prog_14_method_42_code
def yX12_tiredAll : MethodName := ⟨RX12, "tiredAll", "([II)I"⟩
abbrev cX12_minutes : ByteArray := prog_14_method_43_code
def yX12_minutes : MethodName := ⟨RX12, "minutes", "([IIII)I"⟩
abbrev cX12_laysNotes : ByteArray := prog_14_method_44_code
def yX12_laysNotes : MethodName := ⟨RX12, "laysNotes", "(II)V"⟩
abbrev cX12_canSing : ByteArray := prog_14_method_45_code
def yX12_canSing : MethodName := ⟨RX12, "canSing", "([III)Z"⟩
abbrev cX12_singsFrom : ByteArray := prog_14_method_46_code
def yX12_singsFrom : MethodName := ⟨RX12, "singsFrom", "([IIII)Z"⟩
abbrev cX12_singsChord : ByteArray := prog_14_method_47_code
def yX12_singsChord : MethodName := ⟨RX12, "singsChord", "([III)Z"⟩
abbrev cX12_tellsSung : ByteArray := prog_14_method_48_code
def yX12_tellsSung : MethodName := ⟨RX12, "tellsSung", "()V"⟩
abbrev cX12_lock : ByteArray := prog_14_method_49_code
def yX12_lock : MethodName := ⟨RX12, "lock", "(II)I"⟩
abbrev cX12_singer : ByteArray := prog_14_method_50_code
def yX12_singer : MethodName := ⟨RX12, "singer", "(II)I"⟩
abbrev cX12_barge : ByteArray := prog_14_method_51_code
def yX12_barge : MethodName := ⟨RX12, "barge", "(II)I"⟩
abbrev cX12_set : ByteArray := prog_14_method_52_code
def yX12_set : MethodName := ⟨RX12, "set", "(II)I"⟩
abbrev cX12_sheet : ByteArray := prog_14_method_53_code
def yX12_sheet : MethodName := ⟨RX12, "sheet", "(IIII)I"⟩
abbrev cX12_putsBy : ByteArray := prog_14_method_54_code
def yX12_putsBy : MethodName := ⟨RX12, "putsBy", "()V"⟩
abbrev cX12_adds : ByteArray := prog_14_method_55_code
def yX12_adds : MethodName := ⟨RX12, "adds", "(I)I"⟩
abbrev cX12_counts : ByteArray := prog_14_method_56_code
def yX12_counts : MethodName := ⟨RX12, "counts", "(I)I"⟩
abbrev cX12_undo : ByteArray := prog_14_method_57_code
def yX12_undo : MethodName := ⟨RX12, "undo", "()I"⟩
abbrev cX12_hiresTo : ByteArray := prog_14_method_58_code
def yX12_hiresTo : MethodName := ⟨RX12, "hiresTo", "([III)I"⟩
abbrev cX12_leaves : ByteArray := prog_14_method_59_code
def yX12_leaves : MethodName := ⟨RX12, "leaves", "([II)I"⟩
abbrev cX12_waterFor : ByteArray := prog_14_method_60_code
def yX12_waterFor : MethodName := ⟨RX12, "waterFor", "(II)I"⟩
abbrev cX12_whyNot : ByteArray := prog_14_method_61_code
def yX12_whyNot : MethodName := ⟨RX12, "whyNot", "([III)I"⟩
abbrev cX12_passes : ByteArray := prog_14_method_62_code
def yX12_passes : MethodName := ⟨RX12, "passes", "([III)I"⟩
abbrev cX12_restsFor : ByteArray := prog_14_method_63_code
def yX12_restsFor : MethodName := ⟨RX12, "restsFor", "([II)V"⟩
abbrev cX12_hire : ByteArray := prog_14_method_64_code
def yX12_hire : MethodName := ⟨RX12, "hire", "(II)I"⟩
abbrev cX12_leave : ByteArray := prog_14_method_65_code
def yX12_leave : MethodName := ⟨RX12, "leave", "(I)I"⟩
abbrev cX12_pass : ByteArray := prog_14_method_66_code
def yX12_pass : MethodName := ⟨RX12, "pass", "(II)I"⟩
abbrev cX12_rest : ByteArray := prog_14_method_67_code
def yX12_rest : MethodName := ⟨RX12, "rest", "(I)I"⟩
abbrev cX12_readsAct : ByteArray := prog_14_method_68_code
def yX12_readsAct : MethodName := ⟨RX12, "readsAct", "()Z"⟩
abbrev cX12_does : ByteArray := prog_14_method_69_code
def yX12_does : MethodName := ⟨RX12, "does", "(I)Z"⟩
abbrev cX12_day : ByteArray := prog_14_method_70_code
def yX12_day : MethodName := ⟨RX12, "day", "()I"⟩
abbrev cX12_isPair : ByteArray := prog_14_method_71_code
def yX12_isPair : MethodName := ⟨RX12, "isPair", "(II)Z"⟩
abbrev cX12_sings : ByteArray := prog_14_method_72_code
def yX12_sings : MethodName := ⟨RX12, "sings", "(II)I"⟩
abbrev cX12_lacks : ByteArray := prog_14_method_73_code
def yX12_lacks : MethodName := ⟨RX12, "lacks", "(II)I"⟩
abbrev cX12_spoils : ByteArray := prog_14_method_74_code
def yX12_spoils : MethodName := ⟨RX12, "spoils", "(II)I"⟩
abbrev cX12_isShift : ByteArray := prog_14_method_75_code
def yX12_isShift : MethodName := ⟨RX12, "isShift", "(III)Z"⟩
abbrev cX12_shift : ByteArray := prog_14_method_76_code
def yX12_shift : MethodName := ⟨RX12, "shift", "(II)I"⟩
abbrev cX12_fees : ByteArray := prog_14_method_77_code
def yX12_fees : MethodName := ⟨RX12, "fees", "(I)I"⟩
abbrev cX12_isCheaper : ByteArray := prog_14_method_78_code
def yX12_isCheaper : MethodName := ⟨RX12, "isCheaper", "(II)Z"⟩
abbrev cX12_voicesOf : ByteArray := prog_14_method_79_code
def yX12_voicesOf : MethodName := ⟨RX12, "voicesOf", "(III)I"⟩
abbrev cX12_freeAt : ByteArray := prog_14_method_80_code
def yX12_freeAt : MethodName := ⟨RX12, "freeAt", "(I)I"⟩
abbrev cX12_voices : ByteArray := prog_14_method_81_code
def yX12_voices : MethodName := ⟨RX12, "voices", "(II)I"⟩
abbrev cX12_puts : ByteArray := prog_14_method_82_code
def yX12_puts : MethodName := ⟨RX12, "puts", "()V"⟩
abbrev cX12_goesTo : ByteArray := prog_14_method_83_code
def yX12_goesTo : MethodName := ⟨RX12, "goesTo", "(II)I"⟩
abbrev cX12_journey : ByteArray := prog_14_method_84_code
def yX12_journey : MethodName := ⟨RX12, "journey", "(II)I"⟩
abbrev cX12_singsAll : ByteArray := prog_14_method_85_code
def yX12_singsAll : MethodName := ⟨RX12, "singsAll", "(III)Z"⟩
abbrev cX12_hires : ByteArray := prog_14_method_86_code
def yX12_hires : MethodName := ⟨RX12, "hires", "(II)I"⟩
abbrev cX12_rested : ByteArray := prog_14_method_87_code
def yX12_rested : MethodName := ⟨RX12, "rested", "(II)I"⟩
abbrev cX12_spot : ByteArray := prog_14_method_88_code
def yX12_spot : MethodName := ⟨RX12, "spot", "(III)I"⟩
abbrev cX12_costOf : ByteArray := prog_14_method_89_code
def yX12_costOf : MethodName := ⟨RX12, "costOf", "(II)I"⟩
abbrev cX12_yetBy : ByteArray := prog_14_method_90_code
def yX12_yetBy : MethodName := ⟨RX12, "yetBy", "(IIII)I"⟩
abbrev cX12_laysQueue : ByteArray := prog_14_method_91_code
def yX12_laysQueue : MethodName := ⟨RX12, "laysQueue", "()V"⟩
abbrev cX12_queue : ByteArray := prog_14_method_92_code
def yX12_queue : MethodName := ⟨RX12, "queue", "(I)I"⟩
abbrev cX12_passing : ByteArray := prog_14_method_93_code
def yX12_passing : MethodName := ⟨RX12, "passing", "()I"⟩
abbrev cX12_jams : ByteArray := prog_14_method_94_code
def yX12_jams : MethodName := ⟨RX12, "jams", "()I"⟩
abbrev cX12_heard : ByteArray := prog_14_method_95_code
def yX12_heard : MethodName := ⟨RX12, "heard", "(II)I"⟩
abbrev cX12_forget : ByteArray := prog_14_method_96_code
def yX12_forget : MethodName := ⟨RX12, "forget", "()I"⟩
abbrev cX12_singersOf : ByteArray := prog_14_method_97_code
def yX12_singersOf : MethodName := ⟨RX12, "singersOf", "(I)I"⟩
abbrev cX12_fitting : ByteArray := prog_14_method_98_code
def yX12_fitting : MethodName := ⟨RX12, "fitting", "()I"⟩
abbrev cX12_who : ByteArray := prog_14_method_99_code
def yX12_who : MethodName := ⟨RX12, "who", "()I"⟩
abbrev cX12_listen : ByteArray := prog_14_method_100_code
def yX12_listen : MethodName := ⟨RX12, "listen", "()I"⟩
abbrev cX12_isParted : ByteArray := prog_14_method_101_code
def yX12_isParted : MethodName := ⟨RX12, "isParted", "(II)Z"⟩
abbrev cX12_partsBy : ByteArray := prog_14_method_102_code
def yX12_partsBy : MethodName := ⟨RX12, "partsBy", "(IIII)I"⟩
abbrev cX12_parts : ByteArray := prog_14_method_103_code
def yX12_parts : MethodName := ⟨RX12, "parts", "()I"⟩
abbrev cX12_bets : ByteArray := prog_14_method_104_code
def yX12_bets : MethodName := ⟨RX12, "bets", "(II)V"⟩
abbrev cX12_opens : ByteArray := prog_14_method_105_code
def yX12_opens : MethodName := ⟨RX12, "opens", "(II)I"⟩
abbrev cX12_tries : ByteArray := prog_14_method_106_code
def yX12_tries : MethodName := ⟨RX12, "tries", "(II)I"⟩
abbrev cX12_earns : ByteArray := prog_14_method_107_code
def yX12_earns : MethodName := ⟨RX12, "earns", "(III)I"⟩
abbrev cX12_isRest : ByteArray := prog_14_method_108_code
def yX12_isRest : MethodName := ⟨RX12, "isRest", "(III)Z"⟩
abbrev cX12_rests : ByteArray := prog_14_method_109_code
def yX12_rests : MethodName := ⟨RX12, "rests", "(I)I"⟩
abbrev cX12_pays : ByteArray := prog_14_method_110_code
def yX12_pays : MethodName := ⟨RX12, "pays", "(II)I"⟩
abbrev cX12_days : ByteArray := prog_14_method_111_code
def yX12_days : MethodName := ⟨RX12, "days", "(II)I"⟩
abbrev cX12_keep : ByteArray := prog_14_method_112_code
def yX12_keep : MethodName := ⟨RX12, "keep", "(I)Z"⟩
abbrev cX12_again : ByteArray := prog_14_method_113_code
def yX12_again : MethodName := ⟨RX12, "again", "(I)Z"⟩
abbrev cX12_levels : ByteArray := prog_14_method_114_code
def yX12_levels : MethodName := ⟨RX12, "levels", "()I"⟩
abbrev cX12_count : ByteArray := prog_14_method_115_code
def yX12_count : MethodName := ⟨RX12, "count", "(I)I"⟩
abbrev cX12_row : ByteArray := prog_14_method_116_code
def yX12_row : MethodName := ⟨RX12, "row", "(I)J"⟩
def RJ11 : String := "java/lang/Character"
def TJ11 : u_T := fun k => match k with
  | _ => ("", "", "", false)
def tyJ11 : Nat → FieldType := fun k => match k with
  | _ => .int
abbrev cJ11_isValidCodePoint_9a6ad : ByteArray := prog_17_method_11_code
def yJ11_isValidCodePoint_9a6ad : MethodName := ⟨RJ11, "isValidCodePoint", "(I)Z"⟩
abbrev cJ11_highSurrogate_5068e : ByteArray := prog_17_method_28_code
def yJ11_highSurrogate_5068e : MethodName := ⟨RJ11, "highSurrogate", "(I)C"⟩
abbrev cJ11_lowSurrogate_5068e : ByteArray := prog_17_method_29_code
def yJ11_lowSurrogate_5068e : MethodName := ⟨RJ11, "lowSurrogate", "(I)C"⟩
def RJ6 : String := "java/lang/Integer"
def TJ6 : u_T := fun k => match k with
  | _ => ("", "", "", false)
def tyJ6 : Nat → FieldType := fun k => match k with
  | _ => .int
abbrev cJ6_bitCount_0f7a4 : ByteArray := prog_20_method_49_code
def yJ6_bitCount_0f7a4 : MethodName := ⟨RJ6, "bitCount", "(I)I"⟩
def RJ9 : String := "java/lang/Math"
def TJ9 : u_T := fun k => match k with
  | _ => ("", "", "", false)
def tyJ9 : Nat → FieldType := fun k => match k with
  | _ => .int
abbrev cJ9_max_7cf53 : ByteArray := prog_21_method_65_code
def yJ9_max_7cf53 : MethodName := ⟨RJ9, "max", "(II)I"⟩
abbrev cJ9_min_7cf53 : ByteArray := prog_21_method_69_code
def yJ9_min_7cf53 : MethodName := ⟨RJ9, "min", "(II)I"⟩
def RJ0 : String := "java/lang/String"
def TJ0 : u_T := fun k => match k with
  | _ => ("", "", "", false)
def tyJ0 : Nat → FieldType := fun k => match k with
  | _ => .int
abbrev cJ0_length_8abf5 : ByteArray := prog_23_method_54_code
def yJ0_length_8abf5 : MethodName := ⟨RJ0, "length", "()I"⟩
abbrev cJ0_charAt_5068e : ByteArray := prog_23_method_56_code
def yJ0_charAt_5068e : MethodName := ⟨RJ0, "charAt", "(I)C"⟩
abbrev cJ0_indexOf_0f7a4 : ByteArray := prog_23_method_79_code
def yJ0_indexOf_0f7a4 : MethodName := ⟨RJ0, "indexOf", "(I)I"⟩
abbrev cJ0_indexOf_7cf53 : ByteArray := prog_23_method_80_code
def yJ0_indexOf_7cf53 : MethodName := ⟨RJ0, "indexOf", "(II)I"⟩
abbrev cJ0_coder_7d493 : ByteArray := prog_23_method_152_code
def yJ0_coder_7d493 : MethodName := ⟨RJ0, "coder", "()B"⟩
abbrev cJ0_isLatin1_aae02 : ByteArray := prog_23_method_154_code
def yJ0_isLatin1_aae02 : MethodName := ⟨RJ0, "isLatin1", "()Z"⟩
abbrev cJ0_checkIndex_df160 : ByteArray := prog_23_method_155_code
def yJ0_checkIndex_df160 : MethodName := ⟨RJ0, "checkIndex", "(II)V"⟩
abbrev cJ0_checkBoundsBeginEnd_23922 : ByteArray := prog_23_method_158_code
def yJ0_checkBoundsBeginEnd_23922 : MethodName := ⟨RJ0, "checkBoundsBeginEnd", "(III)V"⟩
def RJ1 : String := "java/lang/StringLatin1"
def TJ1 : u_T := fun k => match k with
  | _ => ("", "", "", false)
def tyJ1 : Nat → FieldType := fun k => match k with
  | _ => .int
abbrev cJ1_charAt_3b067 : ByteArray := prog_24_method_2_code
def yJ1_charAt_3b067 : MethodName := ⟨RJ1, "charAt", "([BI)C"⟩
abbrev cJ1_canEncode_9a6ad : ByteArray := prog_24_method_4_code
def yJ1_canEncode_9a6ad : MethodName := ⟨RJ1, "canEncode", "(I)Z"⟩
abbrev cJ1_indexOf_4cfef : ByteArray := prog_24_method_22_code
def yJ1_indexOf_4cfef : MethodName := ⟨RJ1, "indexOf", "([BIII)I"⟩
abbrev cJ1_indexOfChar_4cfef : ByteArray := prog_24_method_23_code
def yJ1_indexOfChar_4cfef : MethodName := ⟨RJ1, "indexOfChar", "([BIII)I"⟩
def RJ2 : String := "java/lang/StringUTF16"
def TJ2 : u_T := fun k => match k with
  | _ => ("", "", "", false)
def tyJ2 : Nat → FieldType := fun k => match k with
  | _ => .int
abbrev cJ2_getChar_3b067 : ByteArray := prog_25_method_5_code
def yJ2_getChar_3b067 : MethodName := ⟨RJ2, "getChar", "([BI)C"⟩
abbrev cJ2_length_9d52b : ByteArray := prog_25_method_6_code
def yJ2_length_9d52b : MethodName := ⟨RJ2, "length", "([B)I"⟩
abbrev cJ2_indexOf_4cfef : ByteArray := prog_25_method_40_code
def yJ2_indexOf_4cfef : MethodName := ⟨RJ2, "indexOf", "([BIII)I"⟩
abbrev cJ2_indexOfChar_4cfef : ByteArray := prog_25_method_47_code
def yJ2_indexOfChar_4cfef : MethodName := ⟨RJ2, "indexOfChar", "([BIII)I"⟩
abbrev cJ2_indexOfCharUnsafe_4cfef : ByteArray := prog_25_method_48_code
def yJ2_indexOfCharUnsafe_4cfef : MethodName := ⟨RJ2, "indexOfCharUnsafe", "([BIII)I"⟩
abbrev cJ2_indexOfSupplementary_4cfef : ByteArray := prog_25_method_49_code
def yJ2_indexOfSupplementary_4cfef : MethodName := ⟨RJ2, "indexOfSupplementary", "([BIII)I"⟩
abbrev cJ2_charAt_3b067 : ByteArray := prog_25_method_83_code
def yJ2_charAt_3b067 : MethodName := ⟨RJ2, "charAt", "([BI)C"⟩
abbrev cJ2_checkIndex_2214a : ByteArray := prog_25_method_91_code
def yJ2_checkIndex_2214a : MethodName := ⟨RJ2, "checkIndex", "(I[B)V"⟩
abbrev cJ2_checkBoundsBeginEnd_d044e : ByteArray := prog_25_method_93_code
def yJ2_checkBoundsBeginEnd_d044e : MethodName := ⟨RJ2, "checkBoundsBeginEnd", "(II[B)V"⟩
def RJ10 : String := "java/lang/System"
def TJ10 : u_T := fun k => match k with
  | _ => ("", "", "", false)
def tyJ10 : Nat → FieldType := fun k => match k with
  | _ => .int
def RJ3 : String := "jdk/internal/util/Preconditions"
def TJ3 : u_T := fun k => match k with
  | _ => ("", "", "", false)
def tyJ3 : Nat → FieldType := fun k => match k with
  | _ => .int
abbrev cJ3_checkIndex_8e157 : ByteArray := prog_31_method_11_code
def yJ3_checkIndex_8e157 : MethodName := ⟨RJ3, "checkIndex", "(IILjava/util/function/BiFunction;)I"⟩
abbrev cJ3_checkFromToIndex_8c36e : ByteArray := prog_31_method_12_code
def yJ3_checkFromToIndex_8c36e : MethodName := ⟨RJ3, "checkFromToIndex", "(IIILjava/util/function/BiFunction;)I"⟩
def RL : String := "LocksBySongLaw"
abbrev cL_lock : ByteArray := method_3_code
def yL_lock : MethodName := ⟨RL, "lock", "(LLocksBySong;II[J)I"⟩
abbrev cL_singer : ByteArray := method_4_code
def yL_singer : MethodName := ⟨RL, "singer", "(LLocksBySong;II[J)I"⟩
abbrev cL_barge : ByteArray := method_5_code
def yL_barge : MethodName := ⟨RL, "barge", "(LLocksBySong;II[J)I"⟩
abbrev cL_row : ByteArray := method_6_code
def yL_row : MethodName := ⟨RL, "row", "(LLocksBySong;I[J)I"⟩
abbrev cL_law : ByteArray := code
def yL_law : MethodName := ⟨RL, "law", "([I)Z"⟩
abbrev vwCl : List vw_C := [(RX0, TX0, 11), (RX1, TX1, 3), (RX2, TX2, 3), (RX3, TX3, 8), (RX4, TX4, 6), (RX5, TX5, 2), (RX6, TX6, 3), (RX7, TX7, 6), (RX8, TX8, 4), (RX9, TX9, 5), (RX10, TX10, 5), (RX11, TX11, 15), (RX12, TX12, 53)]
end
section
/-! ===== the abstract machine: cells by their number, one step, a call ===== -/
abbrev zi_C : Type := (Nat × vp_A) ⊕ (Nat × List Value)
/-- the heap by the cells' numbers; how many cells; cells and slots of the room that are used -/
abbrev zi_S : Type := (Nat → zi_C) × Nat × Nat × Nat
abbrev zi_L : Type := List (Option Value)
abbrev zi_O : Type := (Nat × zi_L × List Value × zi_S) ⊕ (Option Value ⊕ (Nat × List Value × List Value))
/-- cells that are only read: the six texts (1000000 + 2 j) and their bytes (behind each) -/
def zi_txt : List (List Int32) := [[110, 116, 108, 119, 117, 99, 109], [60, 62, 61], [43, 45], [42, 47], [104, 108, 117, 100, 114], [100, 117]]
def zi_ro2 (b m : Nat) : zi_C := match zi_txt[m / 2]? with
  | some l => cond (Nat.beq (m % 2) 0) (.inr (15, [.ref (b + m + 1), .int 0])) (.inl (4, l.length, .inl fun i => l.getD i 0))
  | none => .inl (9, 0, .inl fun _ => 0)
def zi_ro (k : Nat) : zi_C := zi_ro2 1000000 (k - 1000000)
def zi_ld (ls : zi_L) (i : Nat) : Option Value := match ls[i]? with
  | some (some v) => some v
  | _ => none
def zi_kill (ls : zi_L) : Nat → zi_L
  | 0 => ls
  | i + 1 => match ls[i]? with
    | some (some (.long _)) => ls.set i none
    | some (some (.double _)) => ls.set i none
    | _ => ls
def zi_st1 (ls : zi_L) (i : Nat) (v : Value) : Option zi_L := cond (Nat.blt i ls.length) (some ((zi_kill ls i).set i (some v))) none
def zi_st2 (ls : zi_L) (i : Nat) (v : Value) : Option zi_L := cond (Nat.blt (i + 1) ls.length) (some (((zi_kill ls i).set i (some v)).set (i + 1) none)) none
def zi_ent : List Value → zi_L
  | [] => []
  | .long x :: vs => some (.long x) :: none :: zi_ent vs
  | .double x :: vs => some (.double x) :: none :: zi_ent vs
  | v :: vs => some v :: zi_ent vs
def zi_in (i : Int32) (n : Nat) : Bool := !(decide (i < 0)) && Nat.blt i.toNatClampNeg n
def zi_sw (v : Int32) : List (Int32 × Nat) → Nat → Nat
  | [], d => d
  | (k, t) :: r, d => if v = k then t else zi_sw v r d
/-- a field's type takes the value -/
def zi_fv : FieldType → Value → Bool
  | .int, .int _ => true
  | .long, .long _ => true
  | .object _, .ref _ => true
  | .array _, .ref _ => true
  | _, _ => false
def zi_dv : FieldType → Value
  | .int => .int 0
  | .long => .long 0
  | _ => .null
def zi_nx (pc : Nat) (ls : zi_L) (st : List Value) (S : zi_S) : Option zi_O := some (.inl (pc, ls, st, S))
def zi_i1 (pc : Nat) (ls : zi_L) (st : List Value) (S : zi_S) (f : Int32 → Int32) : Option zi_O := match st with
  | .int x :: r => zi_nx (pc + 1) ls (.int (f x) :: r) S
  | _ => none
def zi_i2 (pc : Nat) (ls : zi_L) (st : List Value) (S : zi_S) (f : Int32 → Int32 → Int32) : Option zi_O := match st with
  | .int y :: .int x :: r => zi_nx (pc + 1) ls (.int (f x y) :: r) S
  | _ => none
def zi_l2 (pc : Nat) (ls : zi_L) (st : List Value) (S : zi_S) (f : Int64 → Int64 → Int64) : Option zi_O := match st with
  | .long y :: .long x :: r => zi_nx (pc + 1) ls (.long (f x y) :: r) S
  | _ => none
def zi_lod (n pc : Nat) (ls : zi_L) (st : List Value) (S : zi_S) (i : Nat) (k : Value → Bool) : Option zi_O := match zi_ld ls i with
  | some v => cond (k v) (zi_nx (pc + n) ls (v :: st) S) none
  | none => none
def zi_sto (n pc : Nat) (ls : zi_L) (st : List Value) (S : zi_S) (i : Nat) (k : Value → Bool) : Option zi_O := match st with
  | v :: r => cond (k v) ((zi_st1 ls i v).bind fun ls' => zi_nx (pc + n) ls' r S) none
  | _ => none
def zi_sto2 (n pc : Nat) (ls : zi_L) (st : List Value) (S : zi_S) (i : Nat) : Option zi_O := match st with
  | .long v :: r => (zi_st2 ls i (.long v)).bind fun ls' => zi_nx (pc + n) ls' r S
  | _ => none
def zi_kI : Value → Bool
  | .int _ => true
  | _ => false
def zi_kL : Value → Bool
  | .long _ => true
  | _ => false
def zi_kR : Value → Bool
  | .ref _ => true
  | _ => false
def zi_k1 : Value → Bool
  | .int _ => true
  | .ref _ => true
  | .null => true
  | _ => false
def zi_br (pc tgt : Nat) (ls : zi_L) (r : List Value) (S : zi_S) (b : Prop) [Decidable b] : Option zi_O := if b then zi_nx tgt ls r S else zi_nx (pc + 3) ls r S
def zi_if1 (pc tgt : Nat) (ls : zi_L) (st : List Value) (S : zi_S) (q : ClassFile.Cond) : Option zi_O := match st with
  | .int x :: r => match q with
    | .eq => zi_br pc tgt ls r S (x = 0)
    | .ne => zi_br pc tgt ls r S (¬ x = 0)
    | .lt => zi_br pc tgt ls r S (x < 0)
    | .ge => zi_br pc tgt ls r S (0 ≤ x)
    | .gt => zi_br pc tgt ls r S (0 < x)
    | .le => zi_br pc tgt ls r S (x ≤ 0)
  | _ => none
def zi_if2 (pc tgt : Nat) (ls : zi_L) (st : List Value) (S : zi_S) (q : ClassFile.Cond) : Option zi_O := match st with
  | .int y :: .int x :: r => match q with
    | .eq => zi_br pc tgt ls r S (x = y)
    | .ne => zi_br pc tgt ls r S (¬ x = y)
    | .lt => zi_br pc tgt ls r S (x < y)
    | .ge => zi_br pc tgt ls r S (y ≤ x)
    | .gt => zi_br pc tgt ls r S (y < x)
    | .le => zi_br pc tgt ls r S (x ≤ y)
  | _ => none
/-- the rest of the operand stack is small -/
def zi_sm (r : List Value) : Bool := Nat.ble (r.map fun v => v.category).sum 8
def zi_put (h : Nat → zi_C) (k : Nat) (c : zi_C) : Nat → zi_C := va_up h k c
/-- the n topmost, in the order of the arguments, ahead of those that are there -/
def zi_pop : Nat → List Value → List Value → Option (List Value × List Value)
  | 0, st, as => some (as, st)
  | n + 1, v :: st, as => zi_pop n st (v :: as)
  | _ + 1, [], _ => none
def zi_ft (ci k : Nat) : FieldType := match ci with
  | 0 => tyX0 k
  | 1 => tyX1 k
  | 2 => tyX2 k
  | 3 => tyX3 k
  | 4 => tyX4 k
  | 5 => tyX5 k
  | 6 => tyX6 k
  | 7 => tyX7 k
  | 8 => tyX8 k
  | 9 => tyX9 k
  | 10 => tyX10 k
  | 11 => tyX11 k
  | _ => tyX12 k
def zi_fn (ci : Nat) : Nat := match ci with
  | 0 => 11
  | 1 => 3
  | 2 => 3
  | 3 => 8
  | 4 => 6
  | 5 => 2
  | 6 => 3
  | 7 => 6
  | 8 => 4
  | 9 => 5
  | 10 => 5
  | 11 => 15
  | _ => 53
def zi_new (ci : Nat) : List Value := (List.range (zi_fn ci)).map fun k => zi_dv (zi_ft ci k)
/-- an array's kind: 0 int, 1 long, 2 boolean, 3 Moment -/
def zi_arr (t n : Nat) : vp_A := match t with
  | 1 => (n, .inr (.inl fun _ => 0))
  | 3 => (n, .inr (.inr (.inr (.inr fun _ => none))))
  | _ => (n, .inl fun _ => 0)
def zi_alloc (n pc : Nat) (ls : zi_L) (r : List Value) (S : zi_S) (c : zi_C) (w : Nat) : Option zi_O :=
  cond (Nat.blt S.2.1 1000000) (zi_nx (pc + n) ls (.ref S.2.1 :: r) (zi_put S.1 S.2.1 c, S.2.1 + 1, S.2.2.1 + 1, S.2.2.2 + w)) none
def zi_mka (n pc : Nat) (ls : zi_L) (st : List Value) (S : zi_S) (t : Nat) : Option zi_O := match st with
  | .int k :: r => cond (zi_in k 100000) (zi_alloc n pc ls r S (.inl (t, zi_arr t k.toNatClampNeg)) k.toNatClampNeg) none
  | _ => none
def zi_getf (pc : Nat) (ls : zi_L) (st : List Value) (S : zi_S) (x y : Nat) : Option zi_O := match st with
  | .ref a :: r => match S.1 a with
    | .inr (ci, fs) => cond (Nat.beq ci x && (Nat.blt a S.2.1 || Nat.ble 1000000 a)) (match fs[y]? with
      | some v => zi_nx (pc + 3) ls (v :: r) S
      | none => none) none
    | _ => none
  | _ => none
def zi_putf (pc : Nat) (ls : zi_L) (st : List Value) (S : zi_S) (x y : Nat) : Option zi_O := match st with
  | v :: .ref a :: r => match S.1 a with
    | .inr (ci, fs) => cond (Nat.beq ci x && (Nat.blt a S.2.1 && (Nat.blt y fs.length && zi_fv (zi_ft x y) v))) (zi_nx (pc + 3) ls r (zi_put S.1 a (.inr (ci, fs.set y v)), S.2)) none
    | _ => none
  | _ => none
def zi_ald (pc : Nat) (ls : zi_L) (st : List Value) (S : zi_S) (t : Nat) : Option zi_O := match st with
  | .int i :: .ref a :: r => match S.1 a with
    | .inl (t', n, .inl f) => cond (Nat.beq t' t && (Nat.blt a S.2.1 && zi_in i n)) (zi_nx (pc + 1) ls (.int (f i.toNatClampNeg) :: r) S) none
    | _ => none
  | _ => none
def zi_bald (pc : Nat) (ls : zi_L) (st : List Value) (S : zi_S) : Option zi_O := match st with
  | .int i :: .ref a :: r => match S.1 a with
    | .inl (t', n, .inl f) => cond (((Nat.beq t' 2 && Nat.blt a S.2.1) || (Nat.beq t' 4 && Nat.ble 1000000 a)) && zi_in i n) (zi_nx (pc + 1) ls (.int (f i.toNatClampNeg) :: r) S) none
    | _ => none
  | _ => none
def zi_lald (pc : Nat) (ls : zi_L) (st : List Value) (S : zi_S) : Option zi_O := match st with
  | .int i :: .ref a :: r => match S.1 a with
    | .inl (t', n, .inr (.inl f)) => cond (Nat.beq t' 1 && (Nat.blt a S.2.1 && zi_in i n)) (zi_nx (pc + 1) ls (.long (f i.toNatClampNeg) :: r) S) none
    | _ => none
  | _ => none
def zi_aald (pc : Nat) (ls : zi_L) (st : List Value) (S : zi_S) : Option zi_O := match st with
  | .int i :: .ref a :: r => match S.1 a with
    | .inl (t', n, .inr (.inr (.inr (.inr f)))) => cond (Nat.beq t' 3 && (Nat.blt a S.2.1 && zi_in i n)) (zi_nx (pc + 1) ls (va_rf (f i.toNatClampNeg) :: r) S) none
    | _ => none
  | _ => none
def zi_ast (pc : Nat) (ls : zi_L) (st : List Value) (S : zi_S) (t : Nat) (g : Int32 → Int32) : Option zi_O := match st with
  | .int v :: .int i :: .ref a :: r => match S.1 a with
    | .inl (t', n, .inl f) => cond (Nat.beq t' t && (Nat.blt a S.2.1 && zi_in i n)) (zi_nx (pc + 1) ls r (zi_put S.1 a (.inl (t', n, .inl (upd f i.toNatClampNeg (g v)))), S.2)) none
    | _ => none
  | _ => none
def zi_last (pc : Nat) (ls : zi_L) (st : List Value) (S : zi_S) : Option zi_O := match st with
  | .long v :: .int i :: .ref a :: r => match S.1 a with
    | .inl (t', n, .inr (.inl f)) => cond (Nat.beq t' 1 && (Nat.blt a S.2.1 && zi_in i n)) (zi_nx (pc + 1) ls r (zi_put S.1 a (.inl (t', n, .inr (.inl (vp_updL f i.toNatClampNeg v)))), S.2)) none
    | _ => none
  | _ => none
def zi_aast (pc : Nat) (ls : zi_L) (st : List Value) (S : zi_S) : Option zi_O := match st with
  | .ref v :: .int i :: .ref a :: r => match S.1 a, S.1 v with
    | .inl (t', n, .inr (.inr (.inr (.inr f)))), .inr (ci, _) => cond (Nat.beq t' 3 && (Nat.blt a S.2.1 && (Nat.blt v S.2.1 && (Nat.beq ci 3 && zi_in i n)))) (zi_nx (pc + 1) ls r (zi_put S.1 a (.inl (t', n, .inr (.inr (.inr (.inr (va_up f i.toNatClampNeg (some v))))))), S.2)) none
    | _, _ => none
  | _ => none
def zi_alen (pc : Nat) (ls : zi_L) (st : List Value) (S : zi_S) : Option zi_O := match st with
  | .ref a :: r => match S.1 a with
    | .inl (t', q) => cond ((Nat.blt t' 4 && Nat.blt a S.2.1) || (Nat.beq t' 4 && Nat.ble 1000000 a)) (zi_nx (pc + 1) ls (.int (Int32.ofNat q.1) :: r) S) none
    | _ => none
  | _ => none
/-- System.arraycopy between int arrays -/
def zi_cpy (pc : Nat) (ls : zi_L) (st : List Value) (S : zi_S) : Option zi_O := match st with
  | .int n :: .int dp :: .ref a :: .int sp :: .ref b :: r => match S.1 a, S.1 b with
    | .inl (t1, n1, .inl g), .inl (t0, n0, .inl f) => cond (Nat.beq t1 0 && (Nat.beq t0 0 && (Nat.blt a S.2.1 && (Nat.blt b S.2.1 && (zi_in sp 100000 && (zi_in dp 100000 && (zi_in n 100000 && (Nat.ble (sp.toNatClampNeg + n.toNatClampNeg) n0 && (Nat.ble (dp.toNatClampNeg + n.toNatClampNeg) n1 && zi_sm r)))))))))
        (zi_nx (pc + 3) ls r (zi_put S.1 a (.inl (t1, n1, .inl (va_cpy f g sp.toNatClampNeg dp.toNatClampNeg n.toNatClampNeg))), S.2)) none
    | _, _ => none
  | _ => none
/-- a call of method x with y arguments besides its object (k: has one) -/
def zi_inv (st : List Value) (S : zi_S) (x y : Nat) : Option zi_O := match zi_pop (y + 1) st [] with
  | some (.ref a :: as, r) => match S.1 a with
    | .inr (ci, _) => cond (Nat.beq ci (x / 200) && ((Nat.blt a S.2.1 || Nat.ble 1000000 a) && zi_sm r)) (some (.inr (.inr (x, .ref a :: as, r)))) none
    | _ => none
  | _ => none
def zi_invs (st : List Value) (x y : Nat) : Option zi_O := match zi_pop y st [] with
  | some (as, r) => cond (zi_sm r) (some (.inr (.inr (x, as, r)))) none
  | _ => none
def zi_m2 (pc : Nat) (ls : zi_L) (st : List Value) (S : zi_S) (f : Int32 → Int32 → Int32) : Option zi_O := match st with
  | .int y :: .int x :: r => cond (zi_sm r) (zi_nx (pc + 3) ls (.int (f x y) :: r) S) none
  | _ => none
/-- a constant: an int, or a text -/
def zi_cst (x y : Nat) : Value := match y with
  | 0 => .int (Int32.ofNat x)
  | _ => .ref (1000000 + x)
/-- method number 200 * (its class) + its place -/
abbrev zi_I : Type := ClassFile.Instr × Nat × Nat × Nat × List (Int32 × Nat)
/-- one instruction; x y z: what its operand is resolved to; ret: 0 none, 1 int, 2 boolean, 3 long -/
def zi_ex (ret : Nat) (q : zi_I) (pc : Nat) (ls : zi_L) (st : List Value) (S : zi_S) : Option zi_O := match q.1 with
  | .iconst n => zi_nx (pc + 1) ls (.int (Int32.ofInt n) :: st) S
  | .bipush n => zi_nx (pc + 2) ls (.int (Int8.ofInt n).toInt32 :: st) S
  | .sipush n => zi_nx (pc + 3) ls (.int (Int16.ofInt n).toInt32 :: st) S
  | .lconst n => zi_nx (pc + 1) ls (.long (Int64.ofNat n) :: st) S
  | .ldc _ => zi_nx (pc + 2) ls (zi_cst q.2.2.1 q.2.2.2.1 :: st) S
  | .ldc_w _ => zi_nx (pc + 3) ls (zi_cst q.2.2.1 q.2.2.2.1 :: st) S
  | .getstatic _ => zi_nx (pc + 3) ls (.int (Int32.ofNat q.2.2.1) :: st) S
  | .ldc2_w _ => zi_nx (pc + 3) ls (.long (Int64.ofNat q.2.2.1) :: st) S
  | .iload_n n => zi_lod 1 pc ls st S n zi_kI
  | .iload n => zi_lod 2 pc ls st S n zi_kI
  | .lload_n n => zi_lod 1 pc ls st S n zi_kL
  | .lload n => zi_lod 2 pc ls st S n zi_kL
  | .aload_n n => zi_lod 1 pc ls st S n zi_kR
  | .aload n => zi_lod 2 pc ls st S n zi_kR
  | .istore_n n => zi_sto 1 pc ls st S n zi_kI
  | .istore n => zi_sto 2 pc ls st S n zi_kI
  | .astore_n n => zi_sto 1 pc ls st S n zi_kR
  | .astore n => zi_sto 2 pc ls st S n zi_kR
  | .lstore_n n => zi_sto2 1 pc ls st S n
  | .lstore n => zi_sto2 2 pc ls st S n
  | .iinc i n => match zi_ld ls i with
    | some (.int x) => (zi_st1 ls i (.int (x + Int32.ofInt n))).bind fun ls' => zi_nx (pc + 3) ls' st S
    | _ => none
  | .iadd => zi_i2 pc ls st S (fun x y => x + y)
  | .isub => zi_i2 pc ls st S (fun x y => x - y)
  | .imul => zi_i2 pc ls st S (fun x y => x * y)
  | .iand => zi_i2 pc ls st S (fun x y => x &&& y)
  | .ior => zi_i2 pc ls st S (fun x y => x ||| y)
  | .ixor => zi_i2 pc ls st S (fun x y => x ^^^ y)
  | .ishl => zi_i2 pc ls st S (fun x y => x <<< (y &&& 31))
  | .ishr => zi_i2 pc ls st S (fun x y => x >>> (y &&& 31))
  | .iushr => zi_i2 pc ls st S (fun x y => (x.toUInt32 >>> (y.toUInt32 &&& Int32.toUInt32 31)).toInt32)
  | .idiv => match st with
    | .int y :: .int x :: r => if y = 0 then none else zi_nx (pc + 1) ls (.int (x / y) :: r) S
    | _ => none
  | .irem => match st with
    | .int y :: .int x :: r => if y = 0 then none else zi_nx (pc + 1) ls (.int (x - x / y * y) :: r) S
    | _ => none
  | .ineg => zi_i1 pc ls st S (fun x => -x)
  | .i2b => zi_i1 pc ls st S (fun x => x.toInt8.toInt32)
  | .i2s => zi_i1 pc ls st S (fun x => x.toInt16.toInt32)
  | .i2c => zi_i1 pc ls st S (fun x => (x.toUInt32 % 65536).toInt32)
  | .i2l => match st with
    | .int x :: r => zi_nx (pc + 1) ls (.long x.toInt64 :: r) S
    | _ => none
  | .ladd => zi_l2 pc ls st S (fun x y => x + y)
  | .lsub => zi_l2 pc ls st S (fun x y => x - y)
  | .lmul => zi_l2 pc ls st S (fun x y => x * y)
  | .ldiv => match st with
    | .long y :: .long x :: r => if y = 0 then none else zi_nx (pc + 1) ls (.long (x / y) :: r) S
    | _ => none
  | .lrem => match st with
    | .long y :: .long x :: r => if y = 0 then none else zi_nx (pc + 1) ls (.long (x - x / y * y) :: r) S
    | _ => none
  | .lcmp => match st with
    | .long y :: .long x :: r => zi_nx (pc + 1) ls (.int (lg_cmp x y) :: r) S
    | _ => none
  | .dup => match st with
    | v :: r => cond (zi_k1 v) (zi_nx (pc + 1) ls (v :: v :: r) S) none
    | _ => none
  | .dup2 => match st with
    | v :: w :: r => cond (zi_k1 v && zi_k1 w) (zi_nx (pc + 1) ls (v :: w :: v :: w :: r) S) none
    | _ => none
  | .pop => match st with
    | v :: r => cond (zi_k1 v) (zi_nx (pc + 1) ls r S) none
    | _ => none
  | .goto _ => zi_nx q.2.2.1 ls st S
  | .ifCond k _ => zi_if1 pc q.2.2.1 ls st S k
  | .if_icmp k _ => zi_if2 pc q.2.2.1 ls st S k
  | .tableswitch _ _ _ _ => match st with
    | .int v :: r => zi_nx (zi_sw v q.2.2.2.2 q.2.2.1) ls r S
    | _ => none
  | .lookupswitch _ _ => match st with
    | .int v :: r => zi_nx (zi_sw v q.2.2.2.2 q.2.2.1) ls r S
    | _ => none
  | .getfield _ => zi_getf pc ls st S q.2.2.1 q.2.2.2.1
  | .putfield _ => zi_putf pc ls st S q.2.2.1 q.2.2.2.1
  | .iaload => zi_ald pc ls st S 0
  | .baload => zi_bald pc ls st S
  | .laload => zi_lald pc ls st S
  | .aaload => zi_aald pc ls st S
  | .iastore => zi_ast pc ls st S 0 (fun v => v)
  | .bastore => zi_ast pc ls st S 2 (fun v => vp_nar .boolean v)
  | .lastore => zi_last pc ls st S
  | .aastore => zi_aast pc ls st S
  | .arraylength => zi_alen pc ls st S
  | .newarray .int => zi_mka 2 pc ls st S 0
  | .newarray .long => zi_mka 2 pc ls st S 1
  | .newarray .boolean => zi_mka 2 pc ls st S 2
  | .anewarray _ => zi_mka 3 pc ls st S 3
  | .new _ => cond (Nat.blt q.2.2.1 13) (zi_alloc 3 pc ls st S (.inr (q.2.2.1, zi_new q.2.2.1)) (zi_fn q.2.2.1)) none
  | .invokevirtual _ => zi_inv st S q.2.2.1 q.2.2.2.1
  | .invokespecial _ => cond (Nat.beq q.2.2.1 9000) (match st with
    | .ref _ :: r => cond (zi_sm r) (zi_nx (pc + 3) ls r S) none
    | _ => none) (zi_inv st S q.2.2.1 q.2.2.2.1)
  | .invokestatic _ => match q.2.2.1 with
    | 9001 => zi_m2 pc ls st S (fun x y => if x < y then y else x)
    | 9002 => zi_m2 pc ls st S (fun x y => if y < x then y else x)
    | 9003 => zi_cpy pc ls st S
    | n => zi_invs st n q.2.2.2.1
  | .ireturn => match ret, st with
    | 1, [.int v] => some (.inr (.inl (some (.int v))))
    | 2, [.int v] => if v = 0 ∨ v = 1 then some (.inr (.inl (some (.int v)))) else none
    | 4, [.int v] => if (v.toUInt32 % 65536).toInt32 = v then some (.inr (.inl (some (.int v)))) else none
    | 5, [.int v] => if v.toInt8.toInt32 = v then some (.inr (.inl (some (.int v)))) else none
    | _, _ => none
  | .lreturn => match ret, st with
    | 3, [.long v] => some (.inr (.inl (some (.long v))))
    | _, _ => none
  | .return_ => match ret, st with
    | 0, [] => some (.inr (.inl none))
    | _, _ => none
  | _ => none
end
section
/-! ===== the abstract machine and the machine: pictures ===== -/
def zi_v (ad : Nat → Nat) : Value → Value
  | .ref k => .ref (ad k)
  | v => v
def zi_e (cy : Nat → ClassId) (ad : Nat → Nat) : zi_C → va_E
  | .inl (t, n, .inl f) => .inl (cy t, n, .inl f)
  | .inl (t, n, .inr (.inl f)) => .inl (cy t, n, .inr (.inl f))
  | .inl (t, n, .inr (.inr (.inl f))) => .inl (cy t, n, .inr (.inr (.inl f)))
  | .inl (t, n, .inr (.inr (.inr (.inl f)))) => .inl (cy t, n, .inr (.inr (.inr (.inl f))))
  | .inl (t, n, .inr (.inr (.inr (.inr f)))) => .inl (cy t, n, .inr (.inr (.inr (.inr (fun i => (f i).map ad)))))
  | .inr (ci, fs) => .inr (ci, fs.map (zi_v ad))
def zi_w (cy : Nat → ClassId) (ad : Nat → Nat) (h : Nat → zi_C) (n : Nat) : va_W := (List.range n).map (fun k => (ad k, zi_e cy ad (h k)))
theorem zi_w_get {cy : Nat → ClassId} {ad : Nat → Nat} {h : Nat → zi_C} {n k : Nat} (hk : k < n) : (zi_w cy ad h n)[k]? = some (ad k, zi_e cy ad (h k)) := by
  simp [zi_w, hk]
theorem zi_w_len {cy : Nat → ClassId} {ad : Nat → Nat} {h : Nat → zi_C} {n : Nat} : (zi_w cy ad h n).length = n := by simp [zi_w]
theorem zi_w_inv {cy : Nat → ClassId} {ad : Nat → Nat} {h : Nat → zi_C} {n k : Nat} {q : Nat × va_E} (hq : (zi_w cy ad h n)[k]? = some q) : k < n ∧ q = (ad k, zi_e cy ad (h k)) := by
  have hl : k < n := by
    have := (List.getElem?_eq_some_iff.mp hq).1
    rwa [zi_w_len] at this
  rw [zi_w_get hl] at hq
  exact ⟨hl, (Option.some.inj hq).symm⟩
theorem zi_w_set {cy : Nat → ClassId} {ad : Nat → Nat} {h : Nat → zi_C} {n k : Nat} {c : zi_C} (hk : k < n) : (zi_w cy ad h n).set k (ad k, zi_e cy ad c) = zi_w cy ad (zi_put h k c) n := by
  apply List.ext_getElem?
  intro j
  rw [List.getElem?_set]
  by_cases hj : k = j
  · subst hj
    rw [if_pos rfl, zi_w_len, if_pos hk, zi_w_get hk]
    simp [zi_put, va_up]
  · rw [if_neg hj]
    by_cases hn : j < n
    · rw [zi_w_get hn, zi_w_get hn]
      simp [zi_put, va_up, Ne.symm hj]
    · rw [List.getElem?_eq_none (by rw [zi_w_len]; omega), List.getElem?_eq_none (by rw [zi_w_len]; omega)]
def zi_ok (n : Nat) : Value → Prop
  | .ref k => k < n ∨ 1000000 ≤ k
  | _ => True
def zi_okC (n : Nat) : zi_C → Prop
  | .inl (_, _, .inr (.inr (.inr (.inr f)))) => ∀ i k, f i = some k → k < n ∨ 1000000 ≤ k
  | .inl _ => True
  | .inr (_, fs) => ∀ v ∈ fs, zi_ok n v
def zi_ag (n : Nat) (ad ad' : Nat → Nat) : Prop := ∀ k, (k < n ∨ 1000000 ≤ k) → ad' k = ad k
theorem zi_ag.rf {n : Nat} {ad : Nat → Nat} : zi_ag n ad ad := fun _ _ => rfl
theorem zi_ok.mono {n n' : Nat} {v : Value} (hn : n ≤ n') (h : zi_ok n v) : zi_ok n' v := by
  cases v with
  | ref k => exact h.imp (fun q => Nat.lt_of_lt_of_le q hn) id
  | _ => trivial
theorem zi_okC.mono {n n' : Nat} {c : zi_C} (hn : n ≤ n') (h : zi_okC n c) : zi_okC n' c := by
  rcases c with ⟨t, k, f | f | f | f | f⟩ | ⟨ci, fs⟩
  · trivial
  · trivial
  · trivial
  · trivial
  · intro i k hk
    have := h i k hk
    omega
  · intro v hv
    exact (h v hv).mono hn
theorem zi_v_ag {n : Nat} {ad ad' : Nat → Nat} (ha : zi_ag n ad ad') {v : Value} (h : zi_ok n v) : zi_v ad' v = zi_v ad v := by
  cases v <;> simp only [zi_v]
  exact congrArg _ (ha _ h)
theorem zi_map_ag {n : Nat} {ad ad' : Nat → Nat} (ha : zi_ag n ad ad') {vs : List Value} (h : ∀ v ∈ vs, zi_ok n v) : vs.map (zi_v ad') = vs.map (zi_v ad) :=
  List.map_congr_left fun v hv => zi_v_ag ha (h v hv)
theorem zi_e_ag {n : Nat} {cy : Nat → ClassId} {ad ad' : Nat → Nat} (ha : zi_ag n ad ad') {c : zi_C} (h : zi_okC n c) : zi_e cy ad' c = zi_e cy ad c := by
  rcases c with ⟨t, k, f | f | f | f | f⟩ | ⟨ci, fs⟩
  · rfl
  · rfl
  · rfl
  · rfl
  · simp only [zi_e]
    refine congrArg (fun g => Sum.inl (cy t, k, Sum.inr (Sum.inr (Sum.inr (Sum.inr g))))) (funext fun i => ?_)
    cases hf : f i with
    | none => rfl
    | some j => exact congrArg some (ha _ (h i j hf))
  · simp only [zi_e]
    rw [zi_map_ag ha h]
theorem zi_w_push {cy : Nat → ClassId} {ad ad' : Nat → Nat} {h : Nat → zi_C} {n q : Nat} {c : zi_C} (ha : zi_ag n ad ad') (hq : ad' n = q) (hw : ∀ k, k < n → zi_okC n (h k)) : zi_w cy ad h n ++ [(q, zi_e cy ad' c)] = zi_w cy ad' (zi_put h n c) (n + 1) := by
  apply List.ext_getElem?
  intro j
  by_cases h1 : j < n
  · rw [List.getElem?_append_left (by rw [zi_w_len]; exact h1), zi_w_get h1, zi_w_get (by omega)]
    have e1 : zi_put h n c j = h j := by simp [zi_put, va_up, Nat.ne_of_lt h1]
    rw [e1, zi_e_ag ha (hw j h1), ha j (Or.inl h1)]
  · rw [List.getElem?_append_right (by rw [zi_w_len]; omega), zi_w_len]
    by_cases h2 : j = n
    · subst h2
      rw [Nat.sub_self, zi_w_get (by omega), hq]
      simp [zi_put, va_up]
    · have e1 : j - n = (j - n - 1) + 1 := by omega
      rw [e1, List.getElem?_eq_none (by simp), List.getElem?_eq_none (by rw [zi_w_len]; omega)]
/-! locals -/
def zi_Lv (ad : Nat → Nat) (ls : Array Slot) (nL n : Nat) (L : zi_L) : Prop := ls.size = nL ∧ L.length = nL ∧ lv_wf ls ∧ ∀ k v, zi_ld L k = some v → ls[k]? = some (.val (zi_v ad v)) ∧ zi_ok n v
def zi_as (ad : Nat → Nat) (L : zi_L) : List (Nat × Value) := (List.range L.length).filterMap fun k => (zi_ld L k).map fun v => (k, zi_v ad v)
theorem zi_as_mem {ad : Nat → Nat} {L : zi_L} {q : Nat × Value} : q ∈ zi_as ad L ↔ ∃ v, zi_ld L q.1 = some v ∧ q.2 = zi_v ad v := by
  unfold zi_as
  rw [List.mem_filterMap]
  constructor
  · rintro ⟨k, hk, h⟩
    cases hv : zi_ld L k with
    | none => rw [hv] at h; cases h
    | some v =>
      rw [hv] at h
      cases h
      exact ⟨v, hv, rfl⟩
  · rintro ⟨v, hv, h⟩
    refine ⟨q.1, ?_, by rw [hv]; simp [← h]⟩
    rw [List.mem_range]
    rcases Nat.lt_or_ge q.1 L.length with hl | hl
    · exact hl
    · simp [zi_ld, List.getElem?_eq_none hl] at hv
theorem zi_Lv.has {ad : Nat → Nat} {ls : Array Slot} {nL n : Nat} {L : zi_L} (h : zi_Lv ad ls nL n L) : lv_has ls nL (zi_as ad L) := by
  refine ⟨h.1, h.2.2.1, fun q hq => ?_⟩
  obtain ⟨v, hv, e⟩ := zi_as_mem.mp hq
  rw [e]
  exact (h.2.2.2 _ _ hv).1
theorem zi_v_cat (ad : Nat → Nat) (v : Value) : (zi_v ad v).category = v.category := by cases v <;> rfl
theorem zi_Lv.ag {ad ad' : Nat → Nat} {ls : Array Slot} {nL n n' : Nat} {L : zi_L} (ha : zi_ag n ad ad') (hn : n ≤ n') (h : zi_Lv ad ls nL n L) : zi_Lv ad' ls nL n' L :=
  ⟨h.1, h.2.1, h.2.2.1, fun k v hv => ⟨by rw [zi_v_ag ha (h.2.2.2 k v hv).2]; exact (h.2.2.2 k v hv).1, (h.2.2.2 k v hv).2.mono hn⟩⟩
theorem zi_kill_len (L : zi_L) (i : Nat) : (zi_kill L i).length = L.length := by
  cases i with
  | zero => rfl
  | succ i =>
    simp only [zi_kill]
    split <;> simp
theorem zi_kill_ld {L : zi_L} {i k : Nat} {v : Value} (h : zi_ld (zi_kill L i) k = some v) : zi_ld L k = some v ∧ ¬ (k + 1 = i ∧ v.category = 2) := by
  cases i with
  | zero => exact ⟨h, by omega⟩
  | succ i =>
    simp only [zi_kill] at h
    have key : ∀ (w : Value), L[i]? = some (some w) → zi_ld (L.set i none) k = some v → zi_ld L k = some v ∧ ¬ (k + 1 = i + 1 ∧ v.category = 2) := by
      intro w hw h
      simp only [zi_ld, List.getElem?_set] at h
      by_cases e : i = k
      · subst e
        simp only [if_true] at h
        split at h <;> simp_all
      · rw [if_neg e] at h
        exact ⟨h, by omega⟩
    split at h
    · exact key _ (by assumption) h
    · exact key _ (by assumption) h
    · rename_i h1 h2
      refine ⟨h, ?_⟩
      rintro ⟨e, hc⟩
      have e : k = i := by omega
      subst e
      simp only [zi_ld] at h
      split at h
      · rename_i w hw
        cases h
        cases v <;> simp [Value.category] at hc
        · exact h1 _ hw
        · exact h2 _ hw
      · cases h
theorem zi_st1_inv {L L' : zi_L} {i : Nat} {v : Value} (h : zi_st1 L i v = some L') : i < L.length ∧ L' = (zi_kill L i).set i (some v) := by
  unfold zi_st1 at h
  cases hb : Nat.blt i L.length with
  | false => rw [hb] at h; cases h
  | true =>
    rw [hb] at h
    exact ⟨Nat.le_of_ble_eq_true hb, (Option.some.inj h).symm⟩
theorem zi_st2_inv {L L' : zi_L} {i : Nat} {v : Value} (h : zi_st2 L i v = some L') : i + 1 < L.length ∧ L' = ((zi_kill L i).set i (some v)).set (i + 1) none := by
  unfold zi_st2 at h
  cases hb : Nat.blt (i + 1) L.length with
  | false => rw [hb] at h; cases h
  | true =>
    rw [hb] at h
    exact ⟨Nat.le_of_ble_eq_true hb, (Option.some.inj h).symm⟩
theorem zi_st1_ld {L L' : zi_L} {i k : Nat} {v w : Value} (h : zi_st1 L i v = some L') (hk : zi_ld L' k = some w) : (k = i ∧ w = v) ∨ (k ≠ i ∧ zi_ld L k = some w ∧ ¬ (k + 1 = i ∧ w.category = 2)) := by
  obtain ⟨hi, rfl⟩ := zi_st1_inv h
  by_cases e : k = i
  · subst e
    simp [zi_ld, List.getElem?_set, zi_kill_len, hi] at hk
    exact Or.inl ⟨rfl, hk.symm⟩
  · have h2 : zi_ld (zi_kill L i) k = some w := by
      simp only [zi_ld, List.getElem?_set, if_neg (Ne.symm e)] at hk
      exact hk
    exact Or.inr ⟨e, zi_kill_ld h2⟩
theorem zi_st2_ld {L L' : zi_L} {i k : Nat} {v w : Value} (h : zi_st2 L i v = some L') (hk : zi_ld L' k = some w) : (k = i ∧ w = v) ∨ (k ≠ i ∧ k ≠ i + 1 ∧ zi_ld L k = some w ∧ ¬ (k + 1 = i ∧ w.category = 2)) := by
  obtain ⟨hi, rfl⟩ := zi_st2_inv h
  by_cases e1 : k = i + 1
  · subst e1
    exfalso
    simp [zi_ld, List.getElem?_set, zi_kill_len] at hk
  · have h1 : zi_ld ((zi_kill L i).set i (some v)) k = some w := by
      simp only [zi_ld, List.getElem?_set (i := i + 1), if_neg (Ne.symm e1)] at hk
      exact hk
    by_cases e : k = i
    · subst e
      simp [zi_ld, List.getElem?_set, zi_kill_len, Nat.lt_of_succ_lt hi] at h1
      exact Or.inl ⟨rfl, h1.symm⟩
    · have h2 : zi_ld (zi_kill L i) k = some w := by
        simp only [zi_ld, List.getElem?_set, if_neg (Ne.symm e)] at h1
        exact h1
      exact Or.inr ⟨e, e1, zi_kill_ld h2⟩
theorem zi_Lv.st1 {ad : Nat → Nat} {ls ls' : Array Slot} {nL n : Nat} {L L' : zi_L} {i : Nat} {v : Value} (h : zi_Lv ad ls nL n L) (hs : zi_st1 L i v = some L') (hv : zi_ok n v)
    (h' : lv_has ls' nL ((i, zi_v ad v) :: (zi_as ad L).filter (fun q => !(q.1 == i) && !(q.1 + 1 == i && q.2.category == 2)))) : zi_Lv ad ls' nL n L' := by
  refine ⟨h'.1, ?_, h'.2.1, fun k w hk => ?_⟩
  · obtain ⟨-, rfl⟩ := zi_st1_inv hs
    rw [List.length_set, zi_kill_len]
    exact h.2.1
  · rcases zi_st1_ld hs hk with ⟨rfl, rfl⟩ | ⟨e, h1, h2⟩
    · exact ⟨h'.2.2 _ List.mem_cons_self, hv⟩
    · refine ⟨h'.2.2 (k, zi_v ad w) (List.mem_cons_of_mem _ (List.mem_filter.mpr ⟨zi_as_mem.mpr ⟨w, h1, rfl⟩, ?_⟩)), (h.2.2.2 _ _ h1).2⟩
      simp only [zi_v_cat]
      simp [e]
      exact Decidable.not_and_iff_or_not.mp h2
theorem zi_Lv.st2 {ad : Nat → Nat} {ls ls' : Array Slot} {nL n : Nat} {L L' : zi_L} {i : Nat} {v : Value} (h : zi_Lv ad ls nL n L) (hs : zi_st2 L i v = some L') (hv : zi_ok n v)
    (h' : lv_has ls' nL ((i, zi_v ad v) :: (zi_as ad L).filter (fun q => !(q.1 == i) && (!(q.1 == i + 1) && !(q.1 + 1 == i && q.2.category == 2))))) : zi_Lv ad ls' nL n L' := by
  refine ⟨h'.1, ?_, h'.2.1, fun k w hk => ?_⟩
  · obtain ⟨-, rfl⟩ := zi_st2_inv hs
    rw [List.length_set, List.length_set, zi_kill_len]
    exact h.2.1
  · rcases zi_st2_ld hs hk with ⟨rfl, rfl⟩ | ⟨e, e1, h1, h2⟩
    · exact ⟨h'.2.2 _ List.mem_cons_self, hv⟩
    · refine ⟨h'.2.2 (k, zi_v ad w) (List.mem_cons_of_mem _ (List.mem_filter.mpr ⟨zi_as_mem.mpr ⟨w, h1, rfl⟩, ?_⟩)), (h.2.2.2 _ _ h1).2⟩
      simp only [zi_v_cat]
      simp [e, e1]
      exact Decidable.not_and_iff_or_not.mp h2
end
section
/-! ===== one step of the abstract machine is a step of the machine ===== -/
def zi_cn (o : Nat) : String := match o with
  | 0 => RX0
  | 1 => RX1
  | 2 => RX2
  | 3 => RX3
  | 4 => RX4
  | 5 => RX5
  | 6 => RX6
  | 7 => RX7
  | 8 => RX8
  | 9 => RX9
  | 10 => RX10
  | 11 => RX11
  | 12 => RX12
  | 13 => "LocksBySongLaw"
  | 15 => RJ0
  | 16 => RJ1
  | _ => RJ6
def zi_tb : List Cond := lw_tbl.filter goodWord
def zi_isN : Cond → Bool
  | .fieldLinkNest _ _ _ _ _ _ => true
  | .methodLinkNest _ _ _ _ => true
  | .arrayOver (.object _) => true
  | _ => false
def zi_nw : List Cond := lw_tbl.filter zi_isN
/-- a method: its name, bytes, locals, what it returns (0 none, 1 int, 2 boolean, 3 long), how many parameters -/
abbrev zi_MI : Type := MethodName × ByteArray × Nat × Nat × Nat
def zi_rt : Nat → Option FieldType
  | 0 => none
  | 1 => some .int
  | 2 => some .boolean
  | 4 => some .char
  | 5 => some .byte
  | _ => some .long
def zi_gF (o ix x y : Nat) : Prop := ∃ r : vw_C, vwCl[x]? = some r ∧ y < r.2.2 ∧ (Cond.fieldLink (zi_cn o) ix (r.2.1 y).1 (r.2.1 y).2.1 (r.2.1 y).2.2.1 ∈ zi_tb ∨ ∃ host, Cond.fieldLinkNest (zi_cn o) ix (r.2.1 y).1 (r.2.1 y).2.1 (r.2.1 y).2.2.1 host ∈ zi_nw)
def zi_gP (nm : String) (o ix x y : Nat) : Prop := ∃ r : vw_C, vwCl[x]? = some r ∧ y < r.2.2 ∧ (((r.2.1 y).2.2.2 = true ∧ nm = "<init>" ∧ (r.2.1 y).1 = zi_cn o ∧ Cond.fieldLink (zi_cn o) ix (r.2.1 y).1 (r.2.1 y).2.1 (r.2.1 y).2.2.1 ∈ zi_tb) ∨ (r.2.1 y).2.2.2 = false ∧ (Cond.fieldLink (zi_cn o) ix (r.2.1 y).1 (r.2.1 y).2.1 (r.2.1 y).2.2.1 ∈ zi_tb ∨ ∃ host, Cond.fieldLinkNest (zi_cn o) ix (r.2.1 y).1 (r.2.1 y).2.1 (r.2.1 y).2.2.1 host ∈ zi_nw))
/-- what the tables say of a method -/
def zi_gM (M : Nat → Option zi_MI) (o ix x y : Nat) : Prop := ∃ (d : zi_MI), M x = some d ∧ d.2.2.2.2 = y ∧ d.1.cls = zi_cn (x / 200) ∧ Cond.initialized d.1.cls ∈ zi_tb ∧ (d.1.cls ≠ "java/lang/invoke/MethodHandle" ∧ d.1.cls ≠ "java/lang/invoke/VarHandle" ∧ (parseMethodDescriptor d.1.desc).map (fun q => q.parameters.length) = some y) ∧ Cond.code d.1 d.2.1 d.2.2.1 (zi_rt d.2.2.2.1) ∈ zi_tb ∧ d.2.2.1 ≤ 40 ∧ (Cond.methodLink (zi_cn o) ix d.1 ∈ zi_tb ∨ ∃ host, Cond.methodLinkNest (zi_cn o) ix d.1 host ∈ zi_nw)
def zi_gV (M : Nat → Option zi_MI) (o ix x y : Nat) : Prop := zi_gM M o ix x y ∧ ∀ d, M x = some d → Cond.instanceMethod d.1 ∈ zi_tb ∧ Cond.selects (zi_cn (x / 200)) d.1 d.1 ∈ zi_tb ∧ ((∃ r : vw_C, vwCl[x / 200]? = some r ∧ r.1 = zi_cn (x / 200)) ∨ x / 200 = 15)
def zi_gI (M : Nat → Option zi_MI) (o ix x y : Nat) : Prop := zi_gM M o ix x y ∧ ∀ d, M x = some d → Cond.instanceMethod d.1 ∈ zi_tb ∧ d.1.name = "<init>" ∧ d.2.2.2.1 = 0
def zi_gS (M : Nat → Option zi_MI) (o ix x y : Nat) : Prop := zi_gM M o ix x y ∧ ∀ d, M x = some d → Cond.static d.1 ∈ zi_tb
/-- where the texts are loaded: class, entry, which text -/
def zi_TT : List (Nat × Nat × Nat) := [(7, 96, 0), (12, 227, 0), (12, 235, 1), (12, 237, 2), (12, 239, 3), (12, 357, 4), (12, 424, 5)]
def zi_tx (j : Nat) : String := match j with
  | 0 => "ntlwucm"
  | 1 => "<>="
  | 2 => "+-"
  | 3 => "*/"
  | 4 => "hludr"
  | _ => "du"
def zi_len : List Nat := [7, 3, 2, 2, 5, 2]
/-- what is known of the texts: their cells, the flag of their form, where they are loaded -/
def zi_SF (ad : Nat → Nat) (A : Nat → Prop) (U : State) (H : Heap) : Prop := vk_S 6 zi_len zi_txt (fun j => ad (1000000 + 2 * j)) (fun j => ad (1000001 + 2 * j)) A U H ∧ va_Z "java/lang/String" "COMPACT_STRINGS" "Z" (.int 1) A U H ∧ ∀ q ∈ zi_TT, vk_R (zi_cn q.1) q.2.1 (zi_tx q.2.2) (ad (1000000 + 2 * q.2.2)) U
theorem zi_SF.ag {n : Nat} {ad ad' : Nat → Nat} {A : Nat → Prop} {U : State} {H : Heap} (ha : zi_ag n ad ad') (h : zi_SF ad A U H) : zi_SF ad' A U H := by
  have e1 : (fun j => ad' (1000000 + 2 * j)) = fun j => ad (1000000 + 2 * j) := funext fun j => ha _ (Or.inr (by omega))
  have e2 : (fun j => ad' (1000001 + 2 * j)) = fun j => ad (1000001 + 2 * j) := funext fun j => ha _ (Or.inr (by omega))
  refine ⟨by rw [e1, e2]; exact h.1, h.2.1, fun q hq => ?_⟩
  rw [ha (1000000 + 2 * q.2.2) (Or.inr (by omega))]
  exact h.2.2 q hq
theorem zi_SF.sub {ad : Nat → Nat} {A B : Nat → Prop} {u U : State} {H H1 : Heap} (h : zi_SF ad A u H) (hq : ∀ a : Nat, a < H.size → ¬ A a → H1[a]? = H[a]?) (hAB : ∀ q, B q → A q) (hW : u.WarmedH U.vm) : zi_SF ad B U H1 :=
  ⟨((h.1.kept hq).narrow hAB).moved hW.alike, ((h.2.1.kept hq).narrow hAB).moved hW.alike, fun q hq => (h.2.2 q hq).warm hW⟩
theorem zi_SF.same {ad : Nat → Nat} {A : Nat → Prop} {u U : State} {H : Heap} (h : zi_SF ad A u H) (hv : u.vm = U.vm) : zi_SF ad A U H :=
  ⟨h.1.moved (by rw [hv]; exact Vm.Alike.refl U.vm), h.2.1.moved (by rw [hv]; exact Vm.Alike.refl U.vm), fun q hq => (h.2.2 q hq).same hv.symm⟩
def zi_gG (o ix x y : Nat) : Prop := zi_gF o ix x y ∨ (x = 15 ∧ ((y = 0 ∧ Cond.fieldLink (zi_cn o) ix "java/lang/String" "value" "[B" ∈ zi_tb) ∨ (y = 1 ∧ Cond.fieldLink (zi_cn o) ix "java/lang/String" "coder" "B" ∈ zi_tb)))
def zi_gC (o ix x y : Nat) : Prop := match y with
  | 0 => Cond.constant (zi_cn o) ix (Int32.ofNat x) ∈ zi_tb
  | _ => ∃ j, x = 2 * j ∧ (o, ix, j) ∈ zi_TT
def zi_tsw (pc : Nat) (lo : Int) (offs : List Int) (z : List (Int32 × Nat)) : Prop := z.length = offs.length ∧ ∀ k, k < offs.length → ∃ (e : Int32 × Nat) (off : Int), z[k]? = some e ∧ offs[k]? = some off ∧ e.1.toInt = lo + k ∧ (pc : Int) + off = e.2
def zi_lsw (pc : Nat) : List (Int × Int) → List (Int32 × Nat) → Prop
  | [], [] => True
  | a :: as, b :: bs => b.1.toInt = a.1 ∧ (pc : Int) + a.2 = b.2 ∧ zi_lsw pc as bs
  | _, _ => False
def zi_good (M : Nat → Option zi_MI) (nm : String) (o pc : Nat) (q : zi_I) : Prop := match q.1 with
  | .ldc ix => zi_gC o ix q.2.2.1 q.2.2.2.1
  | .ldc_w ix => zi_gC o ix q.2.2.1 q.2.2.2.1
  | .getstatic ix => q.2.2.1 = 1 ∧ Cond.fieldLink (zi_cn o) ix "java/lang/String" "COMPACT_STRINGS" "Z" ∈ zi_tb
  | .ldc2_w ix => Cond.constantLong (zi_cn o) ix (Int64.ofNat q.2.2.1) ∈ zi_tb
  | .goto off => (pc : Int) + off = q.2.2.1
  | .ifCond _ off => (pc : Int) + off = q.2.2.1
  | .if_icmp _ off => (pc : Int) + off = q.2.2.1
  | .tableswitch d lo hi offs => (pc : Int) + d = q.2.2.1 ∧ hi = lo + offs.size - 1 ∧ zi_tsw pc lo offs.toList q.2.2.2.2
  | .lookupswitch d ps => (pc : Int) + d = q.2.2.1 ∧ (ps.toList.zip (ps.toList.drop 1)).all (fun (a, next) => a.1 < next.1) = true ∧ zi_lsw pc ps.toList q.2.2.2.2
  | .getfield ix => zi_gG o ix q.2.2.1 q.2.2.2.1
  | .putfield ix => zi_gP nm o ix q.2.2.1 q.2.2.2.1
  | .newarray t => Cond.arrayClass (newarray.typeOf t) ∈ zi_tb
  | .anewarray ix => Cond.classLink (zi_cn o) ix RX3 ∈ zi_tb ∧ Cond.arrayOver (.object RX3) ∈ zi_nw
  | .new ix => ∃ r : vw_C, vwCl[q.2.2.1]? = some r ∧ r.2.2 = zi_fn q.2.2.1 ∧ Cond.classLink (zi_cn o) ix r.1 ∈ zi_tb ∧ Cond.instantiable r.1 r.2.2 ∈ zi_tb ∧ Cond.initialized r.1 ∈ zi_tb
  | .invokevirtual ix => zi_gV M o ix q.2.2.1 q.2.2.2.1
  | .invokespecial ix => if q.2.2.1 = 9000 then Cond.methodLink (zi_cn o) ix Lib.objectInit ∈ zi_tb ∧ Cond.instanceMethod Lib.objectInit ∈ zi_tb ∧ Cond.code Lib.objectInit ⟨#[0xb1]⟩ 1 none ∈ zi_tb else zi_gI M o ix q.2.2.1 q.2.2.2.1
  | .invokestatic ix => if q.2.2.1 = 9001 then Cond.methodLink (zi_cn o) ix Lib.Math.max.name ∈ zi_tb ∧ Cond.static Lib.Math.max.name ∈ zi_tb ∧ Cond.initialized "java/lang/Math" ∈ zi_tb ∧ Cond.code Lib.Math.max.name Lib.Math.max.code 2 (some .int) ∈ zi_tb
    else if q.2.2.1 = 9002 then Cond.methodLink (zi_cn o) ix Lib.Math.min.name ∈ zi_tb ∧ Cond.static Lib.Math.min.name ∈ zi_tb ∧ Cond.initialized "java/lang/Math" ∈ zi_tb ∧ Cond.code Lib.Math.min.name Lib.Math.min.code 2 (some .int) ∈ zi_tb
    else if q.2.2.1 = 9003 then Cond.methodLink (zi_cn o) ix arraycopyName ∈ zi_tb ∧ Cond.native arraycopyName ∈ zi_tb ∧ Cond.static arraycopyName ∈ zi_tb ∧ Cond.initialized "java/lang/System" ∈ zi_tb
    else zi_gS M o ix q.2.2.1 q.2.2.2.1
  | _ => True
def zi_tys (cy : Nat → ClassId) : List (ClassId × FieldType) := [(cy 0, .int), (cy 1, .long), (cy 2, .boolean), (cy 3, .object RX3)]
/-- what the tables say of the classes -/
def zi_cls : Prop := ∀ (ci : Nat) (r : vw_C), vwCl[ci]? = some r → (∀ w ∈ u_ws r.1 r.2.1 r.2.2, w ∈ zi_tb) ∧ (∀ k, k < r.2.2 → parseFieldDescriptor (r.2.1 k).2.2.1 = some (zi_ft ci k)) ∧ (∀ a, a < r.2.2 → ∀ b, b < r.2.2 → a ≠ b → (r.2.1 a).2.1 ≠ (r.2.1 b).2.1)
/-- what holds all along a method's body -/
def zi_X (p : Program) (s : State) (m : MethodId) (args : Array Value) (meth : Method) (c : Code) (R : Room) (D : va_G) (cy : Nat → ClassId) (A : Nat → Prop) (cc : ByteArray) (nL : Nat) (o : Nat) (nm : String) (rt : Nat) (ad0 : Nat → Nat) : Prop :=
  p.tables.exec = Jvm.exec ∧ c.code = cc ∧ c.maxLocals = nL ∧ s.vm.findClass (zi_cn o) = some m.cls ∧ (∀ w ∈ zi_tb, w.before args s = true) ∧ (∀ w ∈ zi_nw, va_Nw w s) ∧ va_K D vwCl (zi_tys cy) s ∧ (∀ q, s.heap.size ≤ q → A q) ∧ zi_cls ∧ meth.name = nm ∧ meth.sig.returnType = zi_rt rt ∧ meth.locks = false ∧ 1 ≤ R.frames ∧ 64 ≤ R.locals ∧ zi_SF ad0 A s s.heap
def zi_Hp (D : va_G) (cy : Nat → ClassId) (A : Nat → Prop) (ad : Nat → Nat) (H0 H : Heap) (locs : List Loc) (S : zi_S) : Prop := va_P D vwCl (zi_w cy ad S.1 S.2.1) H ∧ va_D A (zi_w cy ad S.1 S.2.1) ∧ va_S A H0 H locs ∧ (∀ k, k < S.2.1 → zi_okC S.2.1 (S.1 k)) ∧ S.2.1 ≤ 1000000 ∧ ∀ k, 1000000 ≤ k → S.1 k = zi_ro k
/-- from every heap, locals and stack that the picture fits, the machine comes to Q -/
def zi_Go (p : Program) (l : Launch) (e : Env) (R : Room) (s : State) (m : MethodId) (args : Array Value) (below : List Frame) (meth : Method) (c : Code) (Q : State → Prop) (D : va_G) (cy : Nat → ClassId) (A : Nat → Prop) (nL n0 : Nat) (ad0 : Nat → Nat) (k0 s0 : Nat) (pc : Nat) (L : zi_L) (st : List Value) (S : zi_S) : Prop :=
  ∀ (ad : Nat → Nat) (ls : Array Slot) (H : Heap) (locs : List Loc), zi_ag n0 ad0 ad → zi_Hp D cy A ad s.heap H locs S → zi_Lv ad ls nL S.2.1 L → (∀ v ∈ st, zi_ok S.2.1 v) → W p l e R s m args below meth c H locs (S.2.2.1 - k0) (S.2.2.2 - s0) Q (F0 m pc ls (st.map (zi_v ad)))
/-- an instruction's length -/
def zi_ln (i : ClassFile.Instr) (len : Nat) : Nat := match i with
  | .bipush _ => 2
  | .ldc _ => 2
  | .iload _ => 2
  | .lload _ => 2
  | .aload _ => 2
  | .istore _ => 2
  | .lstore _ => 2
  | .astore _ => 2
  | .newarray _ => 2
  | .sipush _ => 3
  | .getstatic _ => 3
  | .ldc_w _ => 3
  | .ldc2_w _ => 3
  | .iinc _ _ => 3
  | .goto _ => 3
  | .ifCond _ _ => 3
  | .if_icmp _ _ => 3
  | .getfield _ => 3
  | .putfield _ => 3
  | .anewarray _ => 3
  | .new _ => 3
  | .invokevirtual _ => 3
  | .invokespecial _ => 3
  | .invokestatic _ => 3
  | .tableswitch _ _ _ _ => len
  | .lookupswitch _ _ => len
  | _ => 1
theorem zi_nx_inv {a pc' : Nat} {b L' : zi_L} {c st' : List Value} {d S' : zi_S} (h : zi_nx a b c d = some (.inl (pc', L', st', S'))) : pc' = a ∧ L' = b ∧ st' = c ∧ S' = d := by
  cases h
  exact ⟨rfl, rfl, rfl, rfl⟩
theorem zi_cond_inv {α : Type} {b : Bool} {x : Option α} {y : α} (h : cond b x none = some y) : b = true ∧ x = some y := by
  cases b
  · cases h
  · exact ⟨rfl, h⟩
theorem zi_i1_inv {pc pc' : Nat} {L L' : zi_L} {st st' : List Value} {S S' : zi_S} {f : Int32 → Int32} (h : zi_i1 pc L st S f = some (.inl (pc', L', st', S'))) : ∃ x r, st = .int x :: r ∧ pc' = pc + 1 ∧ L' = L ∧ st' = .int (f x) :: r ∧ S' = S := by
  unfold zi_i1 at h
  split at h
  · exact ⟨_, _, rfl, zi_nx_inv h⟩
  · cases h
theorem zi_i2_inv {pc pc' : Nat} {L L' : zi_L} {st st' : List Value} {S S' : zi_S} {f : Int32 → Int32 → Int32} (h : zi_i2 pc L st S f = some (.inl (pc', L', st', S'))) : ∃ x y r, st = .int y :: .int x :: r ∧ pc' = pc + 1 ∧ L' = L ∧ st' = .int (f x y) :: r ∧ S' = S := by
  unfold zi_i2 at h
  split at h
  · exact ⟨_, _, _, rfl, zi_nx_inv h⟩
  · cases h
theorem zi_l2_inv {pc pc' : Nat} {L L' : zi_L} {st st' : List Value} {S S' : zi_S} {f : Int64 → Int64 → Int64} (h : zi_l2 pc L st S f = some (.inl (pc', L', st', S'))) : ∃ x y r, st = .long y :: .long x :: r ∧ pc' = pc + 1 ∧ L' = L ∧ st' = .long (f x y) :: r ∧ S' = S := by
  unfold zi_l2 at h
  split at h
  · exact ⟨_, _, _, rfl, zi_nx_inv h⟩
  · cases h
theorem zi_lod_inv {n pc pc' i : Nat} {L L' : zi_L} {st st' : List Value} {S S' : zi_S} {k : Value → Bool} (h : zi_lod n pc L st S i k = some (.inl (pc', L', st', S'))) : ∃ v, zi_ld L i = some v ∧ k v = true ∧ pc' = pc + n ∧ L' = L ∧ st' = v :: st ∧ S' = S := by
  unfold zi_lod at h
  split at h
  · rename_i v hv
    obtain ⟨h1, h2⟩ := zi_cond_inv h
    exact ⟨v, hv, h1, zi_nx_inv h2⟩
  · cases h
theorem zi_sto_inv {n pc pc' i : Nat} {L L' : zi_L} {st st' : List Value} {S S' : zi_S} {k : Value → Bool} (h : zi_sto n pc L st S i k = some (.inl (pc', L', st', S'))) : ∃ v, st = v :: st' ∧ k v = true ∧ zi_st1 L i v = some L' ∧ pc' = pc + n ∧ S' = S := by
  unfold zi_sto at h
  split at h
  · rename_i v r
    obtain ⟨h1, h2⟩ := zi_cond_inv h
    obtain ⟨L1, h3, h4⟩ := Option.bind_eq_some_iff.mp h2
    obtain ⟨rfl, rfl, rfl, rfl⟩ := zi_nx_inv h4
    exact ⟨v, rfl, h1, h3, rfl, rfl⟩
  · cases h
theorem zi_sto2_inv {n pc pc' i : Nat} {L L' : zi_L} {st st' : List Value} {S S' : zi_S} (h : zi_sto2 n pc L st S i = some (.inl (pc', L', st', S'))) : ∃ v, st = .long v :: st' ∧ zi_st2 L i (.long v) = some L' ∧ pc' = pc + n ∧ S' = S := by
  unfold zi_sto2 at h
  split at h
  · rename_i v r
    obtain ⟨L1, h3, h4⟩ := Option.bind_eq_some_iff.mp h
    obtain ⟨rfl, rfl, rfl, rfl⟩ := zi_nx_inv h4
    exact ⟨v, rfl, h3, rfl, rfl⟩
  · cases h
theorem zi_kI_inv {v : Value} (h : zi_kI v = true) : ∃ x, v = .int x := by cases v <;> first | exact ⟨_, rfl⟩ | cases h
theorem zi_kL_inv {v : Value} (h : zi_kL v = true) : ∃ x, v = .long x := by cases v <;> first | exact ⟨_, rfl⟩ | cases h
theorem zi_kR_inv {v : Value} (h : zi_kR v = true) : ∃ x, v = .ref x := by cases v <;> first | exact ⟨_, rfl⟩ | cases h
theorem zi_k1_cat {v : Value} (h : zi_k1 v = true) : v.category = 1 := by cases v <;> first | rfl | cases h
theorem zi_br_inv {pc tgt pc' : Nat} {L L' : zi_L} {r st' : List Value} {S S' : zi_S} {b : Prop} [Decidable b] (h : zi_br pc tgt L r S b = some (.inl (pc', L', st', S'))) : L' = L ∧ st' = r ∧ S' = S ∧ (b → pc' = tgt) ∧ (¬ b → pc' = pc + 3) := by
  unfold zi_br at h
  split at h
  · rename_i hb
    obtain ⟨rfl, rfl, rfl, rfl⟩ := zi_nx_inv h
    exact ⟨rfl, rfl, rfl, fun _ => rfl, fun q => absurd hb q⟩
  · rename_i hb
    obtain ⟨rfl, rfl, rfl, rfl⟩ := zi_nx_inv h
    exact ⟨rfl, rfl, rfl, fun q => absurd q hb, fun _ => rfl⟩
theorem zi_in_vp {i : Int32} {n : Nat} (h : zi_in i n = true) : vp_in i n := by
  unfold zi_in at h
  simp only [Bool.and_eq_true, Bool.not_eq_true', decide_eq_false_iff_not] at h
  intro q
  rcases q with q | q
  · exact h.1 q
  · exact absurd (Nat.le_of_ble_eq_true h.2) (by omega)
theorem zi_all_cons {n : Nat} {v : Value} {r : List Value} (h1 : zi_ok n v) (h2 : ∀ w ∈ r, zi_ok n w) : ∀ w ∈ v :: r, zi_ok n w := fun w h => by
  rcases List.mem_cons.mp h with rfl | h
  · exact h1
  · exact h2 w h
theorem zi_all_tail {n : Nat} {v : Value} {r : List Value} (h : ∀ w ∈ v :: r, zi_ok n w) : ∀ w ∈ r, zi_ok n w := fun w q => h w (List.mem_cons_of_mem _ q)
theorem zi_all_head {n : Nat} {v : Value} {r : List Value} (h : ∀ w ∈ v :: r, zi_ok n w) : zi_ok n v := h v List.mem_cons_self
end
section
/-! ===== the steps, by their kinds ===== -/
section ZT
variable {p : Program} {l : Launch} {e : Env} {R : Room} {s : State} {m : MethodId} {args : Array Value} {below : List Frame} {meth : Method} {c : Code} {Q : State → Prop} {D : va_G} {cy : Nat → ClassId} {A : Nat → Prop} {cc : ByteArray} {nL n0 k0 s0 o rt n i : Nat} {nm : String} {ad0 : Nat → Nat} {pc pc' : Nat} {L L' : zi_L} {st st' : List Value} {S S' : zi_S}
theorem zi_q_push {v : Value} (hv : v.category = 1 ∨ v.category = 2) (hv2 : ∀ n, zi_ok n v) (hv3 : ∀ ad, zi_v ad v = v) (row : ∀ {H : Heap} {locs : List Loc} {cells slots : Nat} {ls : Array Slot} {rest : List Value}, W p l e R s m args below meth c H locs cells slots Q (F0 m (pc + n) ls (v :: rest)) → W p l e R s m args below meth c H locs cells slots Q (F0 m pc ls rest)) (hex : zi_nx (pc + n) L (v :: st) S = some (.inl (pc', L', st', S'))) (kk : zi_Go p l e R s m args below meth c Q D cy A nL n0 ad0 k0 s0 pc' L' st' S') : zi_Go p l e R s m args below meth c Q D cy A nL n0 ad0 k0 s0 pc L st S := by
  obtain ⟨rfl, rfl, rfl, rfl⟩ := zi_nx_inv hex
  intro ad ls H locs hag hH hL hst
  have k := kk ad ls H locs hag hH hL (zi_all_cons (hv2 _) hst)
  rw [List.map_cons, hv3] at k
  exact row k
theorem zi_q_i1 {f : Int32 → Int32} (row : ∀ {H : Heap} {locs : List Loc} {cells slots : Nat} {ls : Array Slot} {rest : List Value} {x : Int32}, W p l e R s m args below meth c H locs cells slots Q (F0 m (pc + 1) ls (.int (f x) :: rest)) → W p l e R s m args below meth c H locs cells slots Q (F0 m pc ls (.int x :: rest))) (hex : zi_i1 pc L st S f = some (.inl (pc', L', st', S'))) (kk : zi_Go p l e R s m args below meth c Q D cy A nL n0 ad0 k0 s0 pc' L' st' S') : zi_Go p l e R s m args below meth c Q D cy A nL n0 ad0 k0 s0 pc L st S := by
  obtain ⟨x, r, rfl, rfl, rfl, rfl, rfl⟩ := zi_i1_inv hex
  intro ad ls H locs hag hH hL hst
  exact row (kk ad ls H locs hag hH hL (zi_all_cons trivial (zi_all_tail hst)))
theorem zi_q_i2 {f : Int32 → Int32 → Int32} (row : ∀ {H : Heap} {locs : List Loc} {cells slots : Nat} {ls : Array Slot} {rest : List Value} {x y : Int32}, W p l e R s m args below meth c H locs cells slots Q (F0 m (pc + 1) ls (.int (f x y) :: rest)) → W p l e R s m args below meth c H locs cells slots Q (F0 m pc ls (.int y :: .int x :: rest))) (hex : zi_i2 pc L st S f = some (.inl (pc', L', st', S'))) (kk : zi_Go p l e R s m args below meth c Q D cy A nL n0 ad0 k0 s0 pc' L' st' S') : zi_Go p l e R s m args below meth c Q D cy A nL n0 ad0 k0 s0 pc L st S := by
  obtain ⟨x, y, r, rfl, rfl, rfl, rfl, rfl⟩ := zi_i2_inv hex
  intro ad ls H locs hag hH hL hst
  exact row (kk ad ls H locs hag hH hL (zi_all_cons trivial (zi_all_tail (zi_all_tail hst))))
theorem zi_q_l2 {f : Int64 → Int64 → Int64} (row : ∀ {H : Heap} {locs : List Loc} {cells slots : Nat} {ls : Array Slot} {rest : List Value} {x y : Int64}, W p l e R s m args below meth c H locs cells slots Q (F0 m (pc + 1) ls (.long (f x y) :: rest)) → W p l e R s m args below meth c H locs cells slots Q (F0 m pc ls (.long y :: .long x :: rest))) (hex : zi_l2 pc L st S f = some (.inl (pc', L', st', S'))) (kk : zi_Go p l e R s m args below meth c Q D cy A nL n0 ad0 k0 s0 pc' L' st' S') : zi_Go p l e R s m args below meth c Q D cy A nL n0 ad0 k0 s0 pc L st S := by
  obtain ⟨x, y, r, rfl, rfl, rfl, rfl, rfl⟩ := zi_l2_inv hex
  intro ad ls H locs hag hH hL hst
  exact row (kk ad ls H locs hag hH hL (zi_all_cons trivial (zi_all_tail (zi_all_tail hst))))
theorem zi_q_iload (row : ∀ {H : Heap} {locs : List Loc} {cells slots : Nat} {ls : Array Slot} {rest : List Value} {x : Int32}, ls[i]? = some (.val (.int x)) → W p l e R s m args below meth c H locs cells slots Q (F0 m (pc + n) ls (.int x :: rest)) → W p l e R s m args below meth c H locs cells slots Q (F0 m pc ls rest)) (hex : zi_lod n pc L st S i zi_kI = some (.inl (pc', L', st', S'))) (kk : zi_Go p l e R s m args below meth c Q D cy A nL n0 ad0 k0 s0 pc' L' st' S') : zi_Go p l e R s m args below meth c Q D cy A nL n0 ad0 k0 s0 pc L st S := by
  obtain ⟨v, hv, hk, rfl, rfl, rfl, rfl⟩ := zi_lod_inv hex
  obtain ⟨x, rfl⟩ := zi_kI_inv hk
  intro ad ls H locs hag hH hL hst
  exact row (hL.2.2.2 _ _ hv).1 (kk ad ls H locs hag hH hL (zi_all_cons trivial hst))
theorem zi_q_lload (row : ∀ {H : Heap} {locs : List Loc} {cells slots : Nat} {ls : Array Slot} {rest : List Value} {x : Int64}, ls[i]? = some (.val (.long x)) → W p l e R s m args below meth c H locs cells slots Q (F0 m (pc + n) ls (.long x :: rest)) → W p l e R s m args below meth c H locs cells slots Q (F0 m pc ls rest)) (hex : zi_lod n pc L st S i zi_kL = some (.inl (pc', L', st', S'))) (kk : zi_Go p l e R s m args below meth c Q D cy A nL n0 ad0 k0 s0 pc' L' st' S') : zi_Go p l e R s m args below meth c Q D cy A nL n0 ad0 k0 s0 pc L st S := by
  obtain ⟨v, hv, hk, rfl, rfl, rfl, rfl⟩ := zi_lod_inv hex
  obtain ⟨x, rfl⟩ := zi_kL_inv hk
  intro ad ls H locs hag hH hL hst
  exact row (hL.2.2.2 _ _ hv).1 (kk ad ls H locs hag hH hL (zi_all_cons trivial hst))
theorem zi_q_aload (row : ∀ {H : Heap} {locs : List Loc} {cells slots : Nat} {ls : Array Slot} {rest : List Value} {x : Nat}, ls[i]? = some (.val (.ref x)) → W p l e R s m args below meth c H locs cells slots Q (F0 m (pc + n) ls (.ref x :: rest)) → W p l e R s m args below meth c H locs cells slots Q (F0 m pc ls rest)) (hex : zi_lod n pc L st S i zi_kR = some (.inl (pc', L', st', S'))) (kk : zi_Go p l e R s m args below meth c Q D cy A nL n0 ad0 k0 s0 pc' L' st' S') : zi_Go p l e R s m args below meth c Q D cy A nL n0 ad0 k0 s0 pc L st S := by
  obtain ⟨v, hv, hk, rfl, rfl, rfl, rfl⟩ := zi_lod_inv hex
  obtain ⟨x, rfl⟩ := zi_kR_inv hk
  intro ad ls H locs hag hH hL hst
  exact row (hL.2.2.2 _ _ hv).1 (kk ad ls H locs hag hH hL (zi_all_cons (hL.2.2.2 _ _ hv).2 hst))
theorem zi_q_istore (row : ∀ {H : Heap} {locs : List Loc} {cells slots : Nat} {ls : Array Slot} {rest : List Value} {x : Int32} {lv : List (Nat × Value)}, lv_has ls nL lv → i < nL → (∀ ls' : Array Slot, lv_has ls' nL ((i, Value.int x) :: lv.filter (fun q => !(q.1 == i) && !(q.1 + 1 == i && q.2.category == 2))) → W p l e R s m args below meth c H locs cells slots Q (F0 m (pc + n) ls' rest)) → W p l e R s m args below meth c H locs cells slots Q (F0 m pc ls (.int x :: rest))) (hex : zi_sto n pc L st S i zi_kI = some (.inl (pc', L', st', S'))) (kk : zi_Go p l e R s m args below meth c Q D cy A nL n0 ad0 k0 s0 pc' L' st' S') : zi_Go p l e R s m args below meth c Q D cy A nL n0 ad0 k0 s0 pc L st S := by
  obtain ⟨v, rfl, hk, h1, rfl, rfl⟩ := zi_sto_inv hex
  obtain ⟨x, rfl⟩ := zi_kI_inv hk
  intro ad ls H locs hag hH hL hst
  exact row hL.has (by rw [← hL.2.1]; exact (zi_st1_inv h1).1) fun ls' hl' => kk ad ls' H locs hag hH (hL.st1 h1 trivial hl') (zi_all_tail hst)
theorem zi_q_astore (row : ∀ {H : Heap} {locs : List Loc} {cells slots : Nat} {ls : Array Slot} {rest : List Value} {x : Nat} {lv : List (Nat × Value)}, lv_has ls nL lv → i < nL → (∀ ls' : Array Slot, lv_has ls' nL ((i, Value.ref x) :: lv.filter (fun q => !(q.1 == i) && !(q.1 + 1 == i && q.2.category == 2))) → W p l e R s m args below meth c H locs cells slots Q (F0 m (pc + n) ls' rest)) → W p l e R s m args below meth c H locs cells slots Q (F0 m pc ls (.ref x :: rest))) (hex : zi_sto n pc L st S i zi_kR = some (.inl (pc', L', st', S'))) (kk : zi_Go p l e R s m args below meth c Q D cy A nL n0 ad0 k0 s0 pc' L' st' S') : zi_Go p l e R s m args below meth c Q D cy A nL n0 ad0 k0 s0 pc L st S := by
  obtain ⟨v, rfl, hk, h1, rfl, rfl⟩ := zi_sto_inv hex
  obtain ⟨x, rfl⟩ := zi_kR_inv hk
  intro ad ls H locs hag hH hL hst
  exact row hL.has (by rw [← hL.2.1]; exact (zi_st1_inv h1).1) fun ls' hl' => kk ad ls' H locs hag hH (hL.st1 h1 (zi_all_head hst) hl') (zi_all_tail hst)
theorem zi_q_lstore (row : ∀ {H : Heap} {locs : List Loc} {cells slots : Nat} {ls : Array Slot} {rest : List Value} {x : Int64} {lv : List (Nat × Value)}, lv_has ls nL lv → i + 1 < nL → (∀ ls' : Array Slot, lv_has ls' nL ((i, Value.long x) :: lv.filter (fun q => !(q.1 == i) && (!(q.1 == i + 1) && !(q.1 + 1 == i && q.2.category == 2)))) → W p l e R s m args below meth c H locs cells slots Q (F0 m (pc + n) ls' rest)) → W p l e R s m args below meth c H locs cells slots Q (F0 m pc ls (.long x :: rest))) (hex : zi_sto2 n pc L st S i = some (.inl (pc', L', st', S'))) (kk : zi_Go p l e R s m args below meth c Q D cy A nL n0 ad0 k0 s0 pc' L' st' S') : zi_Go p l e R s m args below meth c Q D cy A nL n0 ad0 k0 s0 pc L st S := by
  obtain ⟨x, rfl, h1, rfl, rfl⟩ := zi_sto2_inv hex
  intro ad ls H locs hag hH hL hst
  exact row hL.has (by rw [← hL.2.1]; exact (zi_st2_inv h1).1) fun ls' hl' => kk ad ls' H locs hag hH (hL.st2 h1 trivial hl') (zi_all_tail hst)
theorem zi_q_br {b : Prop} [Decidable b] {tgt : Nat} {r : List Value} (row : ∀ {H : Heap} {locs : List Loc} {cells slots : Nat} {ls : Array Slot} {rest : List Value}, (b → W p l e R s m args below meth c H locs cells slots Q (F0 m tgt ls rest)) → (¬ b → W p l e R s m args below meth c H locs cells slots Q (F0 m (pc + 3) ls rest)) → W p l e R s m args below meth c H locs cells slots Q (F0 m pc ls (st.map (zi_v ad0) ++ rest))) (hst0 : ∀ ad, st.map (zi_v ad) = st.map (zi_v ad0)) (hex : zi_br pc tgt L r S b = some (.inl (pc', L', st', S'))) (kk : zi_Go p l e R s m args below meth c Q D cy A nL n0 ad0 k0 s0 pc' L' st' S') : zi_Go p l e R s m args below meth c Q D cy A nL n0 ad0 k0 s0 pc L (st ++ r) S := by
  obtain ⟨rfl, rfl, rfl, h1, h2⟩ := zi_br_inv hex
  intro ad ls H locs hag hH hL hst
  rw [List.map_append, hst0 ad]
  refine row (fun hb => ?_) (fun hb => ?_)
  · have := kk ad ls H locs hag hH hL (fun v hv => hst v (List.mem_append_right _ hv))
    rw [h1 hb] at this
    exact this
  · have := kk ad ls H locs hag hH hL (fun v hv => hst v (List.mem_append_right _ hv))
    rw [h2 hb] at this
    exact this
end ZT
end
section
/-! ===== the steps that touch the heap ===== -/
theorem zi_blt {a b : Nat} (h : Nat.blt a b = true) : a < b := Nat.le_of_ble_eq_true h
theorem zi_or {a n : Nat} (h : (Nat.blt a n || Nat.ble 1000000 a) = true) : a < n ∨ 1000000 ≤ a := by
  rw [Bool.or_eq_true] at h
  exact h.imp zi_blt Nat.le_of_ble_eq_true
theorem zi_beq {a b : Nat} (h : Nat.beq a b = true) : a = b := Nat.eq_of_beq_eq_true h
theorem zi_getf_inv {pc pc' x y : Nat} {L L' : zi_L} {st st' : List Value} {S S' : zi_S} (h : zi_getf pc L st S x y = some (.inl (pc', L', st', S'))) : ∃ (a : Nat) (r fs : List Value) (v : Value), st = .ref a :: r ∧ S.1 a = .inr (x, fs) ∧ (a < S.2.1 ∨ 1000000 ≤ a) ∧ fs[y]? = some v ∧ pc' = pc + 3 ∧ L' = L ∧ st' = v :: r ∧ S' = S := by
  unfold zi_getf at h
  split at h
  · rename_i a r
    split at h
    · rename_i ci fs hc
      obtain ⟨h1, h2⟩ := zi_cond_inv h
      rw [Bool.and_eq_true] at h1
      have hx := zi_beq h1.1
      subst hx
      split at h2
      · rename_i v hv
        exact ⟨a, r, fs, v, rfl, hc, zi_or h1.2, hv, zi_nx_inv h2⟩
      · cases h2
    · cases h
  · cases h
theorem zi_putf_inv {pc pc' x y : Nat} {L L' : zi_L} {st st' : List Value} {S S' : zi_S} (h : zi_putf pc L st S x y = some (.inl (pc', L', st', S'))) : ∃ a fs v, st = v :: .ref a :: st' ∧ S.1 a = .inr (x, fs) ∧ a < S.2.1 ∧ y < fs.length ∧ zi_fv (zi_ft x y) v = true ∧ pc' = pc + 3 ∧ L' = L ∧ S' = (zi_put S.1 a (.inr (x, fs.set y v)), S.2) := by
  unfold zi_putf at h
  split at h
  · rename_i v a r
    split at h
    · rename_i ci fs hc
      obtain ⟨h1, h2⟩ := zi_cond_inv h
      simp only [Bool.and_eq_true] at h1
      have hx := zi_beq h1.1
      subst hx
      obtain ⟨rfl, rfl, rfl, rfl⟩ := zi_nx_inv h2
      exact ⟨a, fs, v, rfl, hc, zi_blt h1.2.1, zi_blt h1.2.2.1, h1.2.2.2, rfl, rfl, rfl⟩
    · cases h
  · cases h
theorem zi_ald_inv {pc pc' t : Nat} {L L' : zi_L} {st st' : List Value} {S S' : zi_S} (h : zi_ald pc L st S t = some (.inl (pc', L', st', S'))) : ∃ i a r n f, st = .int i :: .ref a :: r ∧ S.1 a = .inl (t, n, .inl f) ∧ a < S.2.1 ∧ vp_in i n ∧ pc' = pc + 1 ∧ L' = L ∧ st' = .int (f i.toNatClampNeg) :: r ∧ S' = S := by
  unfold zi_ald at h
  split at h
  · rename_i i a r
    split at h
    · rename_i t' n f hc
      obtain ⟨h1, h2⟩ := zi_cond_inv h
      simp only [Bool.and_eq_true] at h1
      have hx := zi_beq h1.1
      subst hx
      exact ⟨i, a, r, n, f, rfl, hc, zi_blt h1.2.1, zi_in_vp h1.2.2, zi_nx_inv h2⟩
    · cases h
  · cases h
theorem zi_bald_inv {pc pc' : Nat} {L L' : zi_L} {st st' : List Value} {S S' : zi_S} (h : zi_bald pc L st S = some (.inl (pc', L', st', S'))) : ∃ (i : Int32) (a : Nat) (r : List Value) (t n : Nat) (f : Nat → Int32), st = .int i :: .ref a :: r ∧ S.1 a = .inl (t, n, .inl f) ∧ ((t = 2 ∧ a < S.2.1) ∨ (t = 4 ∧ 1000000 ≤ a)) ∧ vp_in i n ∧ pc' = pc + 1 ∧ L' = L ∧ st' = .int (f i.toNatClampNeg) :: r ∧ S' = S := by
  unfold zi_bald at h
  split at h
  · rename_i i a r
    split at h
    · rename_i t' n f hc
      obtain ⟨h1, h2⟩ := zi_cond_inv h
      simp only [Bool.or_eq_true, Bool.and_eq_true] at h1
      exact ⟨i, a, r, t', n, f, rfl, hc, h1.1.imp (fun h => ⟨zi_beq h.1, zi_blt h.2⟩) (fun h => ⟨zi_beq h.1, Nat.le_of_ble_eq_true h.2⟩), zi_in_vp h1.2, zi_nx_inv h2⟩
    · cases h
  · cases h
/-- the texts' cells -/
theorem zi_ro_2 (m : Nat) : zi_ro (1000000 + m) = zi_ro2 1000000 m := by
  unfold zi_ro
  exact congrArg (zi_ro2 1000000) (Nat.add_sub_cancel_left _ _)
theorem zi_ro2_obj {b m ci : Nat} {fs : List Value} (h : zi_ro2 b m = .inr (ci, fs)) : ∃ j, j < 6 ∧ m = 2 * j ∧ ci = 15 ∧ fs = [.ref (b + 2 * j + 1), .int 0] := by
  unfold zi_ro2 at h
  split at h
  · rename_i l hl
    have hj : m / 2 < 6 := (List.getElem?_eq_some_iff.mp hl).1
    cases hb : Nat.beq (m % 2) 0 with
    | false => rw [hb] at h; cases h
    | true =>
      rw [hb] at h
      have e := zi_beq hb
      obtain ⟨e1, e2⟩ := Prod.mk.inj (Sum.inr.inj h)
      have e3 : m = 2 * (m / 2) := by omega
      exact ⟨m / 2, hj, e3, e1.symm, by rw [← e2, ← e3]⟩
  · cases h
theorem zi_ro2_arr {b m n : Nat} {f : Nat → Int32} (h : zi_ro2 b m = .inl (4, n, .inl f)) : ∃ j, j < 6 ∧ m = 2 * j + 1 ∧ n = zi_len.getD j 0 ∧ f = fun i => (zi_txt.getD j []).getD i 0 := by
  unfold zi_ro2 at h
  split at h
  · rename_i l hl
    have hj : m / 2 < 6 := (List.getElem?_eq_some_iff.mp hl).1
    have hl2 : zi_txt.getD (m / 2) [] = l := by simp [List.getD, hl]
    cases hb : Nat.beq (m % 2) 0 with
    | true => rw [hb] at h; cases h
    | false =>
      rw [hb] at h
      have e : ¬ m % 2 = 0 := fun e => by rw [e] at hb; cases hb
      obtain ⟨e1, e2⟩ := Prod.mk.inj (Sum.inl.inj h)
      obtain ⟨e3, e4⟩ := Prod.mk.inj e2
      have e5 := Sum.inl.inj e4
      have this : ∀ j, j < 6 → zi_len.getD j 0 = (zi_txt.getD j []).length := by decide
      exact ⟨m / 2, hj, by omega, by rw [this _ hj, hl2]; exact e3.symm, by rw [hl2]; exact e5.symm⟩
  · obtain ⟨e1, e2⟩ := Prod.mk.inj (Sum.inl.inj h)
    cases e1
theorem zi_ro_obj {k ci : Nat} {fs : List Value} (hk : 1000000 ≤ k) (h : zi_ro k = .inr (ci, fs)) : ∃ j, j < 6 ∧ k = 1000000 + 2 * j ∧ ci = 15 ∧ fs = [.ref (1000001 + 2 * j), .int 0] := by
  obtain ⟨m, rfl⟩ : ∃ m, k = 1000000 + m := ⟨k - 1000000, by omega⟩
  rw [zi_ro_2] at h
  obtain ⟨j, h1, h2, h3, h4⟩ := zi_ro2_obj h
  refine ⟨j, h1, by omega, h3, ?_⟩
  rw [h4]
  have e : 1000000 + 2 * j + 1 = 1000001 + 2 * j := by omega
  rw [e]
theorem zi_ro_arr {k t n : Nat} {f : Nat → Int32} (hk : 1000000 ≤ k) (ht : t = 4) (h : zi_ro k = .inl (t, n, .inl f)) : ∃ j, j < 6 ∧ k = 1000001 + 2 * j ∧ n = zi_len.getD j 0 ∧ f = fun i => (zi_txt.getD j []).getD i 0 := by
  subst ht
  obtain ⟨m, rfl⟩ : ∃ m, k = 1000000 + m := ⟨k - 1000000, by omega⟩
  rw [zi_ro_2] at h
  obtain ⟨j, h1, h2, h3, h4⟩ := zi_ro2_arr h
  exact ⟨j, h1, by omega, h3, h4⟩
theorem zi_lald_inv {pc pc' : Nat} {L L' : zi_L} {st st' : List Value} {S S' : zi_S} (h : zi_lald pc L st S = some (.inl (pc', L', st', S'))) : ∃ i a r n f, st = .int i :: .ref a :: r ∧ S.1 a = .inl (1, n, .inr (.inl f)) ∧ a < S.2.1 ∧ vp_in i n ∧ pc' = pc + 1 ∧ L' = L ∧ st' = .long (f i.toNatClampNeg) :: r ∧ S' = S := by
  unfold zi_lald at h
  split at h
  · rename_i i a r
    split at h
    · rename_i t' n f hc
      obtain ⟨h1, h2⟩ := zi_cond_inv h
      simp only [Bool.and_eq_true] at h1
      have hx := zi_beq h1.1
      subst hx
      exact ⟨i, a, r, n, f, rfl, hc, zi_blt h1.2.1, zi_in_vp h1.2.2, zi_nx_inv h2⟩
    · cases h
  · cases h
theorem zi_aald_inv {pc pc' : Nat} {L L' : zi_L} {st st' : List Value} {S S' : zi_S} (h : zi_aald pc L st S = some (.inl (pc', L', st', S'))) : ∃ i a r n f, st = .int i :: .ref a :: r ∧ S.1 a = .inl (3, n, .inr (.inr (.inr (.inr f)))) ∧ a < S.2.1 ∧ vp_in i n ∧ pc' = pc + 1 ∧ L' = L ∧ st' = va_rf (f i.toNatClampNeg) :: r ∧ S' = S := by
  unfold zi_aald at h
  split at h
  · rename_i i a r
    split at h
    · rename_i t' n f hc
      obtain ⟨h1, h2⟩ := zi_cond_inv h
      simp only [Bool.and_eq_true] at h1
      have hx := zi_beq h1.1
      subst hx
      exact ⟨i, a, r, n, f, rfl, hc, zi_blt h1.2.1, zi_in_vp h1.2.2, zi_nx_inv h2⟩
    · cases h
  · cases h
theorem zi_ast_inv {pc pc' t : Nat} {g : Int32 → Int32} {L L' : zi_L} {st st' : List Value} {S S' : zi_S} (h : zi_ast pc L st S t g = some (.inl (pc', L', st', S'))) : ∃ v i a n f, st = .int v :: .int i :: .ref a :: st' ∧ S.1 a = .inl (t, n, .inl f) ∧ a < S.2.1 ∧ vp_in i n ∧ pc' = pc + 1 ∧ L' = L ∧ S' = (zi_put S.1 a (.inl (t, n, .inl (upd f i.toNatClampNeg (g v)))), S.2) := by
  unfold zi_ast at h
  split at h
  · rename_i v i a r
    split at h
    · rename_i t' n f hc
      obtain ⟨h1, h2⟩ := zi_cond_inv h
      simp only [Bool.and_eq_true] at h1
      have hx := zi_beq h1.1
      subst hx
      obtain ⟨rfl, rfl, rfl, rfl⟩ := zi_nx_inv h2
      exact ⟨v, i, a, n, f, rfl, hc, zi_blt h1.2.1, zi_in_vp h1.2.2, rfl, rfl, rfl⟩
    · cases h
  · cases h
theorem zi_last_inv {pc pc' : Nat} {L L' : zi_L} {st st' : List Value} {S S' : zi_S} (h : zi_last pc L st S = some (.inl (pc', L', st', S'))) : ∃ v i a n f, st = .long v :: .int i :: .ref a :: st' ∧ S.1 a = .inl (1, n, .inr (.inl f)) ∧ a < S.2.1 ∧ vp_in i n ∧ pc' = pc + 1 ∧ L' = L ∧ S' = (zi_put S.1 a (.inl (1, n, .inr (.inl (vp_updL f i.toNatClampNeg v)))), S.2) := by
  unfold zi_last at h
  split at h
  · rename_i v i a r
    split at h
    · rename_i t' n f hc
      obtain ⟨h1, h2⟩ := zi_cond_inv h
      simp only [Bool.and_eq_true] at h1
      have hx := zi_beq h1.1
      subst hx
      obtain ⟨rfl, rfl, rfl, rfl⟩ := zi_nx_inv h2
      exact ⟨v, i, a, n, f, rfl, hc, zi_blt h1.2.1, zi_in_vp h1.2.2, rfl, rfl, rfl⟩
    · cases h
  · cases h
theorem zi_aast_inv {pc pc' : Nat} {L L' : zi_L} {st st' : List Value} {S S' : zi_S} (h : zi_aast pc L st S = some (.inl (pc', L', st', S'))) : ∃ v i a n f fs, st = .ref v :: .int i :: .ref a :: st' ∧ S.1 a = .inl (3, n, .inr (.inr (.inr (.inr f)))) ∧ S.1 v = .inr (3, fs) ∧ a < S.2.1 ∧ v < S.2.1 ∧ vp_in i n ∧ pc' = pc + 1 ∧ L' = L ∧ S' = (zi_put S.1 a (.inl (3, n, .inr (.inr (.inr (.inr (va_up f i.toNatClampNeg (some v))))))), S.2) := by
  unfold zi_aast at h
  split at h
  · rename_i v i a r
    split at h
    · rename_i t' n f ci fs hc hc2
      obtain ⟨h1, h2⟩ := zi_cond_inv h
      simp only [Bool.and_eq_true] at h1
      have hx := zi_beq h1.1
      subst hx
      have hy := zi_beq h1.2.2.2.1
      subst hy
      obtain ⟨rfl, rfl, rfl, rfl⟩ := zi_nx_inv h2
      exact ⟨v, i, a, n, f, fs, rfl, hc, hc2, zi_blt h1.2.1, zi_blt h1.2.2.1, zi_in_vp h1.2.2.2.2, rfl, rfl, rfl⟩
    · cases h
  · cases h
theorem zi_alen_inv {pc pc' : Nat} {L L' : zi_L} {st st' : List Value} {S S' : zi_S} (h : zi_alen pc L st S = some (.inl (pc', L', st', S'))) : ∃ (a : Nat) (r : List Value) (t : Nat) (q : vp_A), st = .ref a :: r ∧ S.1 a = .inl (t, q) ∧ ((t < 4 ∧ a < S.2.1) ∨ (t = 4 ∧ 1000000 ≤ a)) ∧ pc' = pc + 1 ∧ L' = L ∧ st' = .int (Int32.ofNat q.1) :: r ∧ S' = S := by
  unfold zi_alen at h
  split at h
  · rename_i a r
    split at h
    · rename_i t q hc
      obtain ⟨h1, h2⟩ := zi_cond_inv h
      simp only [Bool.or_eq_true, Bool.and_eq_true] at h1
      exact ⟨a, r, t, q, rfl, hc, h1.imp (fun h => ⟨zi_blt h.1, zi_blt h.2⟩) (fun h => ⟨zi_beq h.1, Nat.le_of_ble_eq_true h.2⟩), zi_nx_inv h2⟩
    · cases h
  · cases h
theorem zi_cpy_inv {pc pc' : Nat} {L L' : zi_L} {st st' : List Value} {S S' : zi_S} (h : zi_cpy pc L st S = some (.inl (pc', L', st', S'))) : ∃ n dp a sp b n1 g nz f, st = .int n :: .int dp :: .ref a :: .int sp :: .ref b :: st' ∧ S.1 a = .inl (0, n1, .inl g) ∧ S.1 b = .inl (0, nz, .inl f) ∧ a < S.2.1 ∧ b < S.2.1 ∧ ¬ sp < 0 ∧ ¬ dp < 0 ∧ ¬ n < 0 ∧ sp.toNatClampNeg + n.toNatClampNeg ≤ nz ∧ dp.toNatClampNeg + n.toNatClampNeg ≤ n1 ∧ zi_sm st' = true ∧ pc' = pc + 3 ∧ L' = L ∧ S' = (zi_put S.1 a (.inl (0, n1, .inl (va_cpy f g sp.toNatClampNeg dp.toNatClampNeg n.toNatClampNeg))), S.2) := by
  unfold zi_cpy at h
  split at h
  · rename_i n dp a sp b r
    split at h
    · rename_i t1 n1 g t0 nz f hc hc2
      obtain ⟨h1, h2⟩ := zi_cond_inv h
      simp only [Bool.and_eq_true] at h1
      obtain ⟨q1, q2, q3, q4, q5, q6, q7, q8, q9, q10⟩ := h1
      have e1 := zi_beq q1
      have e2 := zi_beq q2
      subst e1
      subst e2
      obtain ⟨rfl, rfl, rfl, rfl⟩ := zi_nx_inv h2
      exact ⟨n, dp, a, sp, b, n1, g, nz, f, rfl, hc, hc2, zi_blt q3, zi_blt q4, fun q => zi_in_vp q5 (Or.inl q), fun q => zi_in_vp q6 (Or.inl q), fun q => zi_in_vp q7 (Or.inl q), Nat.le_of_ble_eq_true q8, Nat.le_of_ble_eq_true q9, q10, rfl, rfl, rfl⟩
    · cases h
  · cases h
theorem zi_alloc_inv {n pc pc' w : Nat} {L L' : zi_L} {r st' : List Value} {S S' : zi_S} {c : zi_C} (h : zi_alloc n pc L r S c w = some (.inl (pc', L', st', S'))) : S.2.1 < 1000000 ∧ pc' = pc + n ∧ L' = L ∧ st' = .ref S.2.1 :: r ∧ S' = (zi_put S.1 S.2.1 c, S.2.1 + 1, S.2.2.1 + 1, S.2.2.2 + w) := by
  obtain ⟨h1, h2⟩ := zi_cond_inv h
  exact ⟨zi_blt h1, zi_nx_inv h2⟩
theorem zi_mka_inv {n pc pc' t : Nat} {L L' : zi_L} {st st' : List Value} {S S' : zi_S} (h : zi_mka n pc L st S t = some (.inl (pc', L', st', S'))) : ∃ k r, st = .int k :: r ∧ vp_in k 100000 ∧ S.2.1 < 1000000 ∧ pc' = pc + n ∧ L' = L ∧ st' = .ref S.2.1 :: r ∧ S' = (zi_put S.1 S.2.1 (.inl (t, zi_arr t k.toNatClampNeg)), S.2.1 + 1, S.2.2.1 + 1, S.2.2.2 + k.toNatClampNeg) := by
  unfold zi_mka at h
  split at h
  · rename_i k r
    obtain ⟨h1, h2⟩ := zi_cond_inv h
    exact ⟨k, r, rfl, zi_in_vp h1, zi_alloc_inv h2⟩
  · cases h
theorem zi_m2_inv {pc pc' : Nat} {L L' : zi_L} {st st' : List Value} {S S' : zi_S} {f : Int32 → Int32 → Int32} (h : zi_m2 pc L st S f = some (.inl (pc', L', st', S'))) : ∃ x y r, st = .int y :: .int x :: r ∧ zi_sm r = true ∧ pc' = pc + 3 ∧ L' = L ∧ st' = .int (f x y) :: r ∧ S' = S := by
  unfold zi_m2 at h
  split at h
  · obtain ⟨h1, h2⟩ := zi_cond_inv h
    exact ⟨_, _, _, rfl, h1, zi_nx_inv h2⟩
  · cases h
theorem zi_sm_map {ad : Nat → Nat} {r : List Value} (h : zi_sm r = true) : ((r.map (zi_v ad)).map fun v => v.category).sum ≤ 8 := by
  have h1 : (r.map fun v => v.category).sum ≤ 8 := Nat.le_of_ble_eq_true h
  rw [List.map_map]
  have e : ((fun v : Value => v.category) ∘ zi_v ad) = fun v => v.category := funext fun v => zi_v_cat ad v
  rw [e]
  exact h1
/-- a cell is written anew: the picture goes on -/
theorem zi_Hp.put {D : va_G} {cy : Nat → ClassId} {A : Nat → Prop} {ad : Nat → Nat} {H0 H H1 : Heap} {locs locs1 : List Loc} {S : zi_S} {k : Nat} {c : zi_C} (h : zi_Hp D cy A ad H0 H locs S) (hk : k < S.2.1) (hc : zi_okC S.2.1 c)
    (hP : va_P D vwCl ((zi_w cy ad S.1 S.2.1).set k (ad k, zi_e cy ad c)) H1) (hD : va_D A ((zi_w cy ad S.1 S.2.1).set k (ad k, zi_e cy ad c))) (hS : va_S A H0 H1 locs1) : zi_Hp D cy A ad H0 H1 locs1 (zi_put S.1 k c, S.2) := by
  rw [zi_w_set hk] at hP hD
  refine ⟨hP, hD, hS, fun j hj => ?_, h.2.2.2.2.1, fun j hj => ?_⟩
  rotate_left
  · have hk1 : k < S.2.1 := hk
    have hn1 := h.2.2.2.2.1
    have e : j ≠ k := by omega
    show zi_put S.1 k c j = zi_ro j
    simp only [zi_put, va_up, if_neg e]
    exact h.2.2.2.2.2 j hj
  by_cases e : j = k
  · subst e
    simp only [zi_put, va_up, if_true]
    exact hc
  · simp only [zi_put, va_up, if_neg e]
    exact h.2.2.2.1 j hj
theorem zi_fv_nf {ty : FieldType} {v : Value} (h : zi_fv ty v = true) (ad : Nat → Nat) : narrow ty (zi_v ad v) = zi_v ad v ∧ fits ty (zi_v ad v) = true := by
  cases ty <;> cases v <;> first | exact ⟨rfl, rfl⟩ | cases h
theorem zi_set_map {ad : Nat → Nat} {fs : List Value} {y : Nat} {v : Value} : (fs.map (zi_v ad)).set y (zi_v ad v) = (fs.set y v).map (zi_v ad) := by
  rw [List.map_set]
theorem zi_okC_set {n ci y : Nat} {fs : List Value} {v : Value} (h : zi_okC n (.inr (ci, fs))) (hv : zi_ok n v) : zi_okC n (.inr (ci, fs.set y v)) := by
  intro w hw
  rcases List.mem_or_eq_of_mem_set hw with h1 | rfl
  · exact h w h1
  · exact hv
end
section
/-! ===== the steps that touch the heap are the machine's ===== -/
/-- a text by a wide index: as Stand.ldcString of the library, for ldc_w -/
theorem zi_ldcwS {p : Program} {l : Launch} {e : Env} {R : Room} {s : State} {m : MethodId} {args : Array Value} {below : List Frame} {meth : Method} {c : Code} {H : Heap} {locs : List Loc} {cells slots : Nat} {Q : State → Prop} {cc : ByteArray} {pc : Nat} {ls : Array Slot} {rest : List Value} (hexec : p.tables.exec = Jvm.exec) (hb : c.code = cc) {own tx : String} {index q : Nat} (hown : s.vm.findClass own = some m.cls) (hZ : vk_R own index tx q s) (hdg : decode cc pc = .ok (.ldc_w index, 3))
    (k : W p l e R s m args below meth c H locs cells slots Q (F0 m (pc + 3) ls (.ref q :: rest))) : W p l e R s m args below meth c H locs cells slots Q (F0 m pc ls rest) := by
  intro T hT X
  obtain ⟨t, a1, b1⟩ := k T hT X
  refine ⟨t, ?_, b1⟩
  obtain ⟨k, cf, i, a', hk, hcf, hcp, -, hr, hev'⟩ := Cond.stringRef_spec hown hZ.1
  cases hZ.2.symm.trans hev'
  obtain ⟨k', hk', he⟩ := X.warmed.alike.2.2 _ _ hk
  have hr' : k'.resolved[index]? = some (some (.string q)) := by
    rcases X.warmed.entry hk hk' index with h | ⟨h, -⟩
    · rw [h]; exact hr
    · rw [hr] at h; cases h
  jvm_step X.here [hexec, hb, hdg, ldc_w.wp_string (e := e) (s := T) (f := F0 m pc ls rest) X.here.top hk' (by rw [he]; exact hcf) hcp hr']
  exact a1
section ZV
variable {p : Program} {l : Launch} {e : Env} {R : Room} {s : State} {m : MethodId} {args : Array Value} {below : List Frame} {meth : Method} {c : Code} {Q : State → Prop} {D : va_G} {cy : Nat → ClassId} {A : Nat → Prop} {cc : ByteArray} {nL n0 k0 s0 o rt n i x y : Nat} {nm : String} {ad0 : Nat → Nat} {pc pc' : Nat} {L L' : zi_L} {st st' : List Value} {S S' : zi_S}
theorem zi_q_getf {ix : Nat} (X : zi_X p s m args meth c R D cy A cc nL o nm rt ad0) (hd : decode cc pc = .ok (.getfield ix, 3)) (hg : zi_gG o ix x y) (hex : zi_getf pc L st S x y = some (.inl (pc', L', st', S'))) (kk : zi_Go p l e R s m args below meth c Q D cy A nL n0 ad0 k0 s0 pc' L' st' S') : zi_Go p l e R s m args below meth c Q D cy A nL n0 ad0 k0 s0 pc L st S := by
  obtain ⟨a, r, fs, v, rfl, hc, ha, hv, rfl, rfl, rfl, rfl⟩ := zi_getf_inv hex
  obtain ⟨hx, hb, hml, hown, hts, hN, hK, hA, hcls, hnm, hret, hlk, hRf, hRl, hSF⟩ := X
  intro ad ls H locs hag hH hL hst
  by_cases ha1 : 1000000 ≤ a
  · rw [hH.2.2.2.2.2 a ha1] at hc
    obtain ⟨j, hj, rfl, rfl, rfl⟩ := zi_ro_obj ha1 hc
    have hSF := hSF.ag hag
    rcases hg with ⟨q, hq, -⟩ | ⟨-, ⟨rfl, hl⟩ | ⟨rfl, hl⟩⟩
    · simp [vwCl] at hq
    · have hv : v = .ref (1000001 + 2 * j) := (Option.some.inj hv).symm
      subst hv
      exact vk_getf hx hb (hSF.1.1 j hj).2.2.1 hH.2.2.1 hown (hts _ hl) (fun _ h9 => h9) hd (kk ad ls H locs hag hH hL (zi_all_cons (Or.inr (show 1000000 ≤ 1000001 + 2 * j by omega)) (zi_all_tail hst)))
    · have hv : v = .int 0 := (Option.some.inj hv).symm
      subst hv
      exact vk_getf hx hb (hSF.1.1 j hj).2.1 hH.2.2.1 hown (hts _ hl) (fun _ h9 => h9) hd (kk ad ls H locs hag hH hL (zi_all_cons trivial (zi_all_tail hst)))
  · have ha : a < S'.2.1 := by omega
    have he : (zi_w cy ad S'.1 S'.2.1)[a]? = some (ad a, .inr (x, fs.map (zi_v ad))) := by rw [zi_w_get ha, hc]; rfl
    have hv' : (fs.map (zi_v ad))[y]? = some (zi_v ad v) := by rw [List.getElem?_map, hv]; rfl
    have hokC := hH.2.2.2.1 a ha
    rw [hc] at hokC
    have k := kk ad ls H locs hag hH hL (zi_all_cons (hokC v (List.mem_of_getElem? hv)) (zi_all_tail hst))
    obtain ⟨q, hq, hy, hlink⟩ : zi_gF o ix x y := by
      rcases hg with hg | ⟨rfl, -⟩
      · exact hg
      · obtain ⟨q, hq, -⟩ := hH.1 a _ he
        simp [vwCl] at hq
    rcases hlink with hlink | ⟨host, hlink⟩
    · exact va_get (D := D) (cl := vwCl) (ci := x) (C := q.1) (T := q.2.1) (N := q.2.2) hx hb hts (hcls x q hq).1 hown hK hH.1 a he hq y hy (hts _ hlink) (fun _ h9 => h9) hv' hd k
    · exact va_getN (D := D) (cl := vwCl) (ci := x) (C := q.1) (T := q.2.1) (N := q.2.2) (host := host) hx hb hts (hcls x q hq).1 hown hK hH.1 a he hq y hy (va_Nw.use rfl (hN _ hlink)) (fun _ h9 => h9) hv' hd k
theorem zi_q_putf {ix : Nat} (X : zi_X p s m args meth c R D cy A cc nL o nm rt ad0) (hd : decode cc pc = .ok (.putfield ix, 3)) (hg : zi_gP nm o ix x y) (hex : zi_putf pc L st S x y = some (.inl (pc', L', st', S'))) (kk : zi_Go p l e R s m args below meth c Q D cy A nL n0 ad0 k0 s0 pc' L' st' S') : zi_Go p l e R s m args below meth c Q D cy A nL n0 ad0 k0 s0 pc L st S := by
  obtain ⟨a, fs, v, rfl, hc, ha, hyl, hfv, rfl, rfl, rfl⟩ := zi_putf_inv hex
  obtain ⟨hx, hb, hml, hown, hts, hN, hK, hA, hcls, hnm, -⟩ := X
  intro ad ls H locs hag hH hL hst
  obtain ⟨q, hq, hy, hlink⟩ := hg
  have he : (zi_w cy ad S.1 S.2.1)[a]? = some (ad a, .inr (x, fs.map (zi_v ad))) := by rw [zi_w_get ha, hc]; rfl
  have hokC := hH.2.2.2.1 a ha
  rw [hc] at hokC
  have hnf := zi_fv_nf hfv ad
  have hty := (hcls x q hq).2.1 y hy
  have go : ∀ (H1 : Heap) (locs1 : List Loc), va_P D vwCl ((zi_w cy ad S.1 S.2.1).set a (ad a, .inr (x, (fs.map (zi_v ad)).set y (zi_v ad v)))) H1 → va_D A ((zi_w cy ad S.1 S.2.1).set a (ad a, .inr (x, (fs.map (zi_v ad)).set y (zi_v ad v)))) → va_S A s.heap H1 locs1 → W p l e R s m args below meth c H1 locs1 (S.2.2.1 - k0) (S.2.2.2 - s0) Q (F0 m (pc + 3) ls (st'.map (zi_v ad))) := by
    intro H1 locs1 hP hD hS
    rw [zi_set_map] at hP hD
    exact kk ad ls H1 locs1 hag (zi_Hp.put (c := .inr (x, fs.set y v)) hH ha (zi_okC_set hokC (zi_all_head hst)) hP hD hS) hL (zi_all_tail (zi_all_tail hst))
  rcases hlink with ⟨hf, hin, hdecl, hlink⟩ | ⟨hf, hlink | ⟨host, hlink⟩⟩
  · exact va_putF (D := D) (cl := vwCl) (ci := x) (C := q.1) (T := q.2.1) (N := q.2.2) hx hb hts (hcls x q hq).1 (zi_ft x) (hcls x q hq).2.1 (hcls x q hq).2.2 hown hK hH.1 hH.2.1 hH.2.2.1 a he hq y hy (hts _ hlink) (fun _ h9 => h9) hf (hnm.trans hin) hdecl hty hnf.1 hnf.2 (by rw [List.length_map]; exact hyl) hd go
  · exact va_put (D := D) (cl := vwCl) (ci := x) (C := q.1) (T := q.2.1) (N := q.2.2) hx hb hts (hcls x q hq).1 (zi_ft x) (hcls x q hq).2.1 (hcls x q hq).2.2 hown hK hH.1 hH.2.1 hH.2.2.1 a he hq y hy (hts _ hlink) (fun _ h9 => h9) hf hty hnf.1 hnf.2 (by rw [List.length_map]; exact hyl) hd go
  · exact va_putN (D := D) (cl := vwCl) (ci := x) (C := q.1) (T := q.2.1) (N := q.2.2) (host := host) hx hb hts (hcls x q hq).1 (zi_ft x) (hcls x q hq).2.1 (hcls x q hq).2.2 hown hK hH.1 hH.2.1 hH.2.2.1 a he hq y hy (va_Nw.use rfl (hN _ hlink)) (fun _ h9 => h9) hf hty hnf.1 hnf.2 (by rw [List.length_map]; exact hyl) hd go
theorem zi_q_iald (X : zi_X p s m args meth c R D cy A cc nL o nm rt ad0) (hd : decode cc pc = .ok (.iaload, 1)) (hex : zi_ald pc L st S 0 = some (.inl (pc', L', st', S'))) (kk : zi_Go p l e R s m args below meth c Q D cy A nL n0 ad0 k0 s0 pc' L' st' S') : zi_Go p l e R s m args below meth c Q D cy A nL n0 ad0 k0 s0 pc L st S := by
  obtain ⟨i, a, r, n, f, rfl, hc, ha, hin, rfl, rfl, rfl, rfl⟩ := zi_ald_inv hex
  obtain ⟨hx, hb, hml, hown, hts, hN, hK, hA, hcls, hnm, -⟩ := X
  intro ad ls H locs hag hH hL hst
  have he : (zi_w cy ad S'.1 S'.2.1)[a]? = some (ad a, .inl (cy 0, n, .inl f)) := by rw [zi_w_get ha, hc]; rfl
  exact va_iald hx hb hK hH.1 a 0 he rfl hin hd (kk ad ls H locs hag hH hL (zi_all_cons trivial (zi_all_tail (zi_all_tail hst))))
theorem zi_q_zald (X : zi_X p s m args meth c R D cy A cc nL o nm rt ad0) (hd : decode cc pc = .ok (.baload, 1)) (hex : zi_bald pc L st S = some (.inl (pc', L', st', S'))) (kk : zi_Go p l e R s m args below meth c Q D cy A nL n0 ad0 k0 s0 pc' L' st' S') : zi_Go p l e R s m args below meth c Q D cy A nL n0 ad0 k0 s0 pc L st S := by
  obtain ⟨i, a, r, t, n, f, rfl, hc, ht, hin, rfl, rfl, rfl, rfl⟩ := zi_bald_inv hex
  obtain ⟨hx, hb, hml, hown, hts, hN, hK, hA, hcls, hnm, hret, hlk, hRf, hRl, hSF⟩ := X
  intro ad ls H locs hag hH hL hst
  rcases ht with ⟨rfl, ha⟩ | ⟨ht, ha⟩
  · have he : (zi_w cy ad S'.1 S'.2.1)[a]? = some (ad a, .inl (cy 2, n, .inl f)) := by rw [zi_w_get ha, hc]; rfl
    exact va_zald hx hb hK hH.1 a 2 he rfl hin hd (kk ad ls H locs hag hH hL (zi_all_cons trivial (zi_all_tail (zi_all_tail hst))))
  · rw [hH.2.2.2.2.2 a ha] at hc
    obtain ⟨j, hj, rfl, rfl, rfl⟩ := zi_ro_arr ha ht hc
    have hSF := hSF.ag hag
    exact va_tb hx hb (hSF.1.1 j hj).2.2.2 hH.2.2.1 hin rfl hd (kk ad ls H locs hag hH hL (zi_all_cons trivial (zi_all_tail (zi_all_tail hst))))
theorem zi_q_lald (X : zi_X p s m args meth c R D cy A cc nL o nm rt ad0) (hd : decode cc pc = .ok (.laload, 1)) (hex : zi_lald pc L st S = some (.inl (pc', L', st', S'))) (kk : zi_Go p l e R s m args below meth c Q D cy A nL n0 ad0 k0 s0 pc' L' st' S') : zi_Go p l e R s m args below meth c Q D cy A nL n0 ad0 k0 s0 pc L st S := by
  obtain ⟨i, a, r, n, f, rfl, hc, ha, hin, rfl, rfl, rfl, rfl⟩ := zi_lald_inv hex
  obtain ⟨hx, hb, hml, hown, hts, hN, hK, hA, hcls, hnm, -⟩ := X
  intro ad ls H locs hag hH hL hst
  have he : (zi_w cy ad S'.1 S'.2.1)[a]? = some (ad a, .inl (cy 1, n, .inr (.inl f))) := by rw [zi_w_get ha, hc]; rfl
  exact va_lald hx hb hK hH.1 a 1 he rfl hin hd (kk ad ls H locs hag hH hL (zi_all_cons trivial (zi_all_tail (zi_all_tail hst))))
theorem zi_rf_ok {n : Nat} {ad : Nat → Nat} {q : Option Nat} (h : ∀ k, q = some k → k < n ∨ 1000000 ≤ k) : zi_ok n (va_rf q) := by
  cases q with
  | none => trivial
  | some k => exact h k rfl
theorem zi_rf_v (ad : Nat → Nat) (q : Option Nat) : zi_v ad (va_rf q) = va_rf (q.map ad) := by cases q <;> rfl
theorem zi_q_aald (X : zi_X p s m args meth c R D cy A cc nL o nm rt ad0) (hd : decode cc pc = .ok (.aaload, 1)) (hex : zi_aald pc L st S = some (.inl (pc', L', st', S'))) (kk : zi_Go p l e R s m args below meth c Q D cy A nL n0 ad0 k0 s0 pc' L' st' S') : zi_Go p l e R s m args below meth c Q D cy A nL n0 ad0 k0 s0 pc L st S := by
  obtain ⟨i, a, r, n, f, rfl, hc, ha, hin, rfl, rfl, rfl, rfl⟩ := zi_aald_inv hex
  obtain ⟨hx, hb, hml, hown, hts, hN, hK, hA, hcls, hnm, -⟩ := X
  intro ad ls H locs hag hH hL hst
  have he : (zi_w cy ad S'.1 S'.2.1)[a]? = some (ad a, .inl (cy 3, n, .inr (.inr (.inr (.inr fun i => (f i).map ad))))) := by rw [zi_w_get ha, hc]; rfl
  have hokC := hH.2.2.2.1 a ha
  rw [hc] at hokC
  have k := kk ad ls H locs hag hH hL (zi_all_cons (zi_rf_ok (ad := ad) (fun k hk => hokC _ k hk)) (zi_all_tail (zi_all_tail hst)))
  rw [List.map_cons, zi_rf_v] at k
  exact va_aldq hx hb hK hH.1 a 3 he rfl hin hd k
theorem zi_q_iast (X : zi_X p s m args meth c R D cy A cc nL o nm rt ad0) (hd : decode cc pc = .ok (.iastore, 1)) (hex : zi_ast pc L st S 0 (fun v => v) = some (.inl (pc', L', st', S'))) (kk : zi_Go p l e R s m args below meth c Q D cy A nL n0 ad0 k0 s0 pc' L' st' S') : zi_Go p l e R s m args below meth c Q D cy A nL n0 ad0 k0 s0 pc L st S := by
  obtain ⟨v, i, a, n, f, rfl, hc, ha, hin, rfl, rfl, rfl⟩ := zi_ast_inv hex
  obtain ⟨hx, hb, hml, hown, hts, hN, hK, hA, hcls, hnm, -⟩ := X
  intro ad ls H locs hag hH hL hst
  have he : (zi_w cy ad S.1 S.2.1)[a]? = some (ad a, .inl (cy 0, n, .inl f)) := by rw [zi_w_get ha, hc]; rfl
  refine va_iast hx hb hK hH.1 hH.2.1 hH.2.2.1 a 0 he rfl hin hd fun H1 locs1 hP hD hS => ?_
  exact kk ad ls H1 locs1 hag (zi_Hp.put (c := .inl (0, n, .inl (upd f i.toNatClampNeg v))) hH ha trivial hP hD hS) hL (zi_all_tail (zi_all_tail (zi_all_tail hst)))
theorem zi_q_zast (X : zi_X p s m args meth c R D cy A cc nL o nm rt ad0) (hd : decode cc pc = .ok (.bastore, 1)) (hex : zi_ast pc L st S 2 (fun v => vp_nar .boolean v) = some (.inl (pc', L', st', S'))) (kk : zi_Go p l e R s m args below meth c Q D cy A nL n0 ad0 k0 s0 pc' L' st' S') : zi_Go p l e R s m args below meth c Q D cy A nL n0 ad0 k0 s0 pc L st S := by
  obtain ⟨v, i, a, n, f, rfl, hc, ha, hin, rfl, rfl, rfl⟩ := zi_ast_inv hex
  obtain ⟨hx, hb, hml, hown, hts, hN, hK, hA, hcls, hnm, -⟩ := X
  intro ad ls H locs hag hH hL hst
  have he : (zi_w cy ad S.1 S.2.1)[a]? = some (ad a, .inl (cy 2, n, .inl f)) := by rw [zi_w_get ha, hc]; rfl
  refine va_zast hx hb hK hH.1 hH.2.1 hH.2.2.1 a 2 he rfl hin hd fun H1 locs1 hP hD hS => ?_
  exact kk ad ls H1 locs1 hag (zi_Hp.put (c := .inl (2, n, .inl (upd f i.toNatClampNeg (vp_nar .boolean v)))) hH ha trivial hP hD hS) hL (zi_all_tail (zi_all_tail (zi_all_tail hst)))
theorem zi_q_last (X : zi_X p s m args meth c R D cy A cc nL o nm rt ad0) (hd : decode cc pc = .ok (.lastore, 1)) (hex : zi_last pc L st S = some (.inl (pc', L', st', S'))) (kk : zi_Go p l e R s m args below meth c Q D cy A nL n0 ad0 k0 s0 pc' L' st' S') : zi_Go p l e R s m args below meth c Q D cy A nL n0 ad0 k0 s0 pc L st S := by
  obtain ⟨v, i, a, n, f, rfl, hc, ha, hin, rfl, rfl, rfl⟩ := zi_last_inv hex
  obtain ⟨hx, hb, hml, hown, hts, hN, hK, hA, hcls, hnm, -⟩ := X
  intro ad ls H locs hag hH hL hst
  have he : (zi_w cy ad S.1 S.2.1)[a]? = some (ad a, .inl (cy 1, n, .inr (.inl f))) := by rw [zi_w_get ha, hc]; rfl
  refine va_last hx hb hK hH.1 hH.2.1 hH.2.2.1 a 1 he rfl hin hd fun H1 locs1 hP hD hS => ?_
  exact kk ad ls H1 locs1 hag (zi_Hp.put (c := .inl (1, n, .inr (.inl (vp_updL f i.toNatClampNeg v)))) hH ha trivial hP hD hS) hL (zi_all_tail (zi_all_tail (zi_all_tail hst)))
theorem zi_up_map (ad : Nat → Nat) (f : Nat → Option Nat) (i v : Nat) : (fun j => (va_up f i (some v) j).map ad) = va_up (fun j => (f j).map ad) i (some (ad v)) := by
  funext j
  simp only [va_up]
  split <;> rfl
theorem zi_q_aast (X : zi_X p s m args meth c R D cy A cc nL o nm rt ad0) (hd : decode cc pc = .ok (.aastore, 1)) (hex : zi_aast pc L st S = some (.inl (pc', L', st', S'))) (kk : zi_Go p l e R s m args below meth c Q D cy A nL n0 ad0 k0 s0 pc' L' st' S') : zi_Go p l e R s m args below meth c Q D cy A nL n0 ad0 k0 s0 pc L st S := by
  obtain ⟨v, i, a, n, f, fs, rfl, hc, hc2, ha, hv, hin, rfl, rfl, rfl⟩ := zi_aast_inv hex
  obtain ⟨hx, hb, hml, hown, hts, hN, hK, hA, hcls, hnm, -⟩ := X
  intro ad ls H locs hag hH hL hst
  have he : (zi_w cy ad S.1 S.2.1)[a]? = some (ad a, .inl (cy 3, n, .inr (.inr (.inr (.inr fun i => (f i).map ad))))) := by rw [zi_w_get ha, hc]; rfl
  have he2 : (zi_w cy ad S.1 S.2.1)[v]? = some (ad v, .inr (3, fs.map (zi_v ad))) := by rw [zi_w_get hv, hc2]; rfl
  have hokC := hH.2.2.2.1 a ha
  rw [hc] at hokC
  refine va_astq hx hb hK hH.1 hH.2.1 hH.2.2.1 a 3 v 3 (r := (RX3, TX3, 8)) he rfl he2 rfl hin hd fun H1 locs1 hP hD hS => ?_
  rw [← zi_up_map] at hP hD
  exact kk ad ls H1 locs1 hag (zi_Hp.put (c := .inl (3, n, .inr (.inr (.inr (.inr (va_up f i.toNatClampNeg (some v))))))) hH ha (fun j k hk => by
    simp only [va_up] at hk
    split at hk
    · cases hk; exact Or.inl hv
    · exact hokC j k hk) hP hD hS) hL (zi_all_tail (zi_all_tail (zi_all_tail hst)))
theorem zi_e_inl (cy : Nat → ClassId) (ad : Nat → Nat) (t : Nat) (q : vp_A) : ∃ x : vp_A, zi_e cy ad (.inl (t, q)) = .inl (cy t, x) ∧ x.1 = q.1 := by
  obtain ⟨n, f | f | f | f | f⟩ := q <;> exact ⟨_, rfl, rfl⟩
theorem zi_q_alen (X : zi_X p s m args meth c R D cy A cc nL o nm rt ad0) (hd : decode cc pc = .ok (.arraylength, 1)) (hex : zi_alen pc L st S = some (.inl (pc', L', st', S'))) (kk : zi_Go p l e R s m args below meth c Q D cy A nL n0 ad0 k0 s0 pc' L' st' S') : zi_Go p l e R s m args below meth c Q D cy A nL n0 ad0 k0 s0 pc L st S := by
  obtain ⟨a, r, t, q, rfl, hc, hat, rfl, rfl, rfl, rfl⟩ := zi_alen_inv hex
  obtain ⟨hx, hb, hml, hown, hts, hN, hK, hA, hcls, hnm, hret, hlk, hRf, hRl, hSF⟩ := X
  intro ad ls H locs hag hH hL hst
  rcases hat with ⟨ht, ha⟩ | ⟨ht, ha⟩
  · obtain ⟨x, hx1, hx2⟩ := zi_e_inl cy ad t q
    have he : (zi_w cy ad S'.1 S'.2.1)[a]? = some (ad a, .inl (cy t, x)) := by rw [zi_w_get ha, hc, hx1]
    have hty : ∃ ty, (zi_tys cy)[t]? = some (cy t, ty) := by
      rcases (by omega : t = 0 ∨ t = 1 ∨ t = 2 ∨ t = 3) with rfl | rfl | rfl | rfl <;> exact ⟨_, rfl⟩
    obtain ⟨ty, hty⟩ := hty
    exact va_alen hx hb hK hH.1 a t he hty (congrArg Int32.ofNat hx2) hd (kk ad ls H locs hag hH hL (zi_all_cons trivial (zi_all_tail hst)))
  · rw [hH.2.2.2.2.2 a ha] at hc
    obtain ⟨n, f⟩ := q
    have hf : ∃ g, f = .inl g := by
      obtain ⟨k, rfl⟩ : ∃ k, a = 1000000 + k := ⟨a - 1000000, by omega⟩
      rw [zi_ro_2] at hc
      unfold zi_ro2 at hc
      split at hc
      · rename_i l hl
        cases hb2 : Nat.beq (k % 2) 0 with
        | true => rw [hb2] at hc; cases hc
        | false =>
          rw [hb2] at hc
          exact ⟨_, ((Prod.mk.inj (Prod.mk.inj (Sum.inl.inj hc)).2).2).symm⟩
      · exact ⟨_, ((Prod.mk.inj (Prod.mk.inj (Sum.inl.inj hc)).2).2).symm⟩
    obtain ⟨g, rfl⟩ := hf
    obtain ⟨j, hj, rfl, rfl, rfl⟩ := zi_ro_arr ha ht hc
    have hSF := hSF.ag hag
    exact va_tlen hx hb (hSF.1.1 j hj).2.2.2 hH.2.2.1 rfl hd (kk ad ls H locs hag hH hL (zi_all_cons trivial (zi_all_tail hst)))
theorem zi_q_ldcT {ix j : Nat} (X : zi_X p s m args meth c R D cy A cc nL o nm rt ad0) (hd : decode cc pc = .ok (.ldc ix, 2)) (hg : (o, ix, j) ∈ zi_TT) (kk : zi_Go p l e R s m args below meth c Q D cy A nL n0 ad0 k0 s0 (pc + 2) L (.ref (1000000 + 2 * j) :: st) S) : zi_Go p l e R s m args below meth c Q D cy A nL n0 ad0 k0 s0 pc L st S := by
  obtain ⟨hx, hb, hml, hown, hts, hN, hK, hA, hcls, hnm, hret, hlk, hRf, hRl, hSF⟩ := X
  intro ad ls H locs hag hH hL hst
  have hSF := (hSF.ag hag).2.2 _ hg
  have k := kk ad ls H locs hag hH hL (zi_all_cons (Or.inr (Nat.le_add_right _ _)) hst)
  exact va_ldcS hx hb hown hSF hd k
theorem zi_q_ldcwT {ix j : Nat} (X : zi_X p s m args meth c R D cy A cc nL o nm rt ad0) (hd : decode cc pc = .ok (.ldc_w ix, 3)) (hg : (o, ix, j) ∈ zi_TT) (kk : zi_Go p l e R s m args below meth c Q D cy A nL n0 ad0 k0 s0 (pc + 3) L (.ref (1000000 + 2 * j) :: st) S) : zi_Go p l e R s m args below meth c Q D cy A nL n0 ad0 k0 s0 pc L st S := by
  obtain ⟨hx, hb, hml, hown, hts, hN, hK, hA, hcls, hnm, hret, hlk, hRf, hRl, hSF⟩ := X
  intro ad ls H locs hag hH hL hst
  have hSF := (hSF.ag hag).2.2 _ hg
  have k := kk ad ls H locs hag hH hL (zi_all_cons (Or.inr (Nat.le_add_right _ _)) hst)
  exact zi_ldcwS hx hb hown hSF hd k
theorem zi_q_gets {ix : Nat} (X : zi_X p s m args meth c R D cy A cc nL o nm rt ad0) (hd : decode cc pc = .ok (.getstatic ix, 3)) (hg : Cond.fieldLink (zi_cn o) ix "java/lang/String" "COMPACT_STRINGS" "Z" ∈ zi_tb) (kk : zi_Go p l e R s m args below meth c Q D cy A nL n0 ad0 k0 s0 (pc + 3) L (.int 1 :: st) S) : zi_Go p l e R s m args below meth c Q D cy A nL n0 ad0 k0 s0 pc L st S := by
  obtain ⟨hx, hb, hml, hown, hts, hN, hK, hA, hcls, hnm, hret, hlk, hRf, hRl, hSF⟩ := X
  intro ad ls H locs hag hH hL hst
  exact va_gets hx hb hSF.2.1 hH.2.2.1 hown (hts _ hg) (fun _ h9 => h9) hd (kk ad ls H locs hag hH hL (zi_all_cons trivial hst))
end ZV
end
section
/-! ===== new cells, arraycopy, max, min, Object's constructor, switches ===== -/
theorem zi_dv_v (ad : Nat → Nat) (t : FieldType) : zi_v ad (zi_dv t) = zi_dv t := by cases t <;> rfl
theorem zi_new_v (ad : Nat → Nat) (x : Nat) : (zi_new x).map (zi_v ad) = zi_new x := by
  unfold zi_new
  rw [List.map_map]
  exact List.map_congr_left fun k _ => zi_dv_v ad _
theorem zi_new_ok (n x : Nat) : ∀ v ∈ zi_new x, zi_ok n v := by
  intro v hv
  obtain ⟨k, -, rfl⟩ := List.mem_map.mp hv
  cases zi_ft x k <;> trivial
set_option maxRecDepth 20000 in
theorem zi_new_def : ∀ x, x < 13 → ∀ j, j < zi_fn x → defaultValue (zi_ft x j) = vp_V (zi_new x) j := by decide +kernel
theorem zi_arr_e (cy : Nat → ClassId) (ad : Nat → Nat) (t n : Nat) : zi_e cy ad (.inl (t, zi_arr t n)) = .inl (cy t, zi_arr t n) := by
  unfold zi_arr
  split <;> rfl
theorem zi_arr_ok (m t n : Nat) : zi_okC m (.inl (t, zi_arr t n)) := by
  unfold zi_arr
  split
  · trivial
  · intro i k h
    cases h
  · trivial
section ZW
variable {p : Program} {l : Launch} {e : Env} {R : Room} {s : State} {m : MethodId} {args : Array Value} {below : List Frame} {meth : Method} {c : Code} {Q : State → Prop} {D : va_G} {cy : Nat → ClassId} {A : Nat → Prop} {cc : ByteArray} {nL n0 k0 s0 o rt n i x y : Nat} {nm : String} {ad0 : Nat → Nat} {pc pc' : Nat} {L L' : zi_L} {st st' : List Value} {S S' : zi_S}
/-- a cell comes: the picture grows -/
theorem zi_grow {ad : Nat → Nat} {ls : Array Slot} {H H1 : Heap} {locs : List Loc} {r : List Value} {cl : zi_C} {w q : Nat} (hn0 : n0 ≤ S.2.1) (hk : k0 ≤ S.2.2.1) (hs : s0 ≤ S.2.2.2) (hn : S.2.1 < 1000000) (hag : zi_ag n0 ad0 ad) (hH : zi_Hp D cy A ad s.heap H locs S) (hL : zi_Lv ad ls nL S.2.1 L) (hst : ∀ v ∈ r, zi_ok S.2.1 v) (hcl : zi_okC S.2.1 cl) (hq : va_P D vwCl (zi_w cy ad S.1 S.2.1 ++ [(q, zi_e cy (va_up ad S.2.1 q) cl)]) H1) (hqD : va_D A (zi_w cy ad S.1 S.2.1 ++ [(q, zi_e cy (va_up ad S.2.1 q) cl)])) (hS : va_S A s.heap H1 locs)
    (kk : zi_Go p l e R s m args below meth c Q D cy A nL n0 ad0 k0 s0 pc' L (.ref S.2.1 :: r) (zi_put S.1 S.2.1 cl, S.2.1 + 1, S.2.2.1 + 1, S.2.2.2 + w)) : W p l e R s m args below meth c H1 locs (S.2.2.1 - k0 + 1) (S.2.2.2 - s0 + w) Q (F0 m pc' ls (.ref q :: r.map (zi_v ad))) := by
  have ha : zi_ag S.2.1 ad (va_up ad S.2.1 q) := fun k hk => by
    have : k ≠ S.2.1 := by omega
    simp [va_up, this]
  have e1 : va_up ad S.2.1 q S.2.1 = q := by simp [va_up]
  rw [zi_w_push ha e1 hH.2.2.2.1] at hq hqD
  have ha0 : zi_ag n0 ad0 (va_up ad S.2.1 q) := fun k hk => (ha k (by omega)).trans (hag k hk)
  have hH1 : zi_Hp D cy A (va_up ad S.2.1 q) s.heap H1 locs (zi_put S.1 S.2.1 cl, S.2.1 + 1, S.2.2.1 + 1, S.2.2.2 + w) := by
    refine ⟨hq, hqD, hS, fun k hk => ?_, by show S.2.1 + 1 ≤ 1000000; omega, fun k hk => ?_⟩
    rotate_left
    · show zi_put S.1 S.2.1 cl k = zi_ro k
      have e : k ≠ S.2.1 := by omega
      simp only [zi_put, va_up, if_neg e]
      exact hH.2.2.2.2.2 k hk
    show zi_okC (S.2.1 + 1) (zi_put S.1 S.2.1 cl k)
    by_cases h : k = S.2.1
    · subst h
      simp only [zi_put, va_up, if_true]
      exact hcl.mono (by omega)
    · simp only [zi_put, va_up, if_neg h]
      have hk' : k < S.2.1 + 1 := hk
      exact (hH.2.2.2.1 k (by omega)).mono (by omega)
  have k := kk _ ls H1 locs ha0 hH1 (hL.ag ha (Nat.le_succ _)) (zi_all_cons (Or.inl (Nat.lt_succ_self _)) fun v hv => (hst v hv).mono (Nat.le_succ _))
  rw [List.map_cons, zi_map_ag ha hst] at k
  have e2 : S.2.2.1 + 1 - k0 = S.2.2.1 - k0 + 1 := by omega
  have e3 : S.2.2.2 + w - s0 = S.2.2.2 - s0 + w := by omega
  have k : W p l e R s m args below meth c H1 locs (S.2.2.1 + 1 - k0) (S.2.2.2 + w - s0) Q (F0 m pc' ls (.ref (va_up ad S.2.1 q S.2.1) :: r.map (zi_v ad))) := k
  rw [e1, e2, e3] at k
  exact k
theorem zi_q_new {ix : Nat} (X : zi_X p s m args meth c R D cy A cc nL o nm rt ad0) (hd : decode cc pc = .ok (.new ix, 3)) (hg : ∃ r : vw_C, vwCl[x]? = some r ∧ r.2.2 = zi_fn x ∧ Cond.classLink (zi_cn o) ix r.1 ∈ zi_tb ∧ Cond.instantiable r.1 r.2.2 ∈ zi_tb ∧ Cond.initialized r.1 ∈ zi_tb) (hex : cond (Nat.blt x 13) (zi_alloc 3 pc L st S (.inr (x, zi_new x)) (zi_fn x)) none = some (.inl (pc', L', st', S'))) (hn0 : n0 ≤ S.2.1) (hk : k0 ≤ S.2.2.1) (hs : s0 ≤ S.2.2.2) (hRc : S'.2.2.1 - k0 ≤ R.cells) (hRs : S'.2.2.2 - s0 ≤ R.slots) (kk : zi_Go p l e R s m args below meth c Q D cy A nL n0 ad0 k0 s0 pc' L' st' S') : zi_Go p l e R s m args below meth c Q D cy A nL n0 ad0 k0 s0 pc L st S := by
  obtain ⟨hx13, hex⟩ := zi_cond_inv hex
  have hx13 := zi_blt hx13
  obtain ⟨hn, rfl, rfl, rfl, rfl⟩ := zi_alloc_inv hex
  obtain ⟨hx, hb, hml, hown, hts, hN, hK, hA, hcls, hnm, -⟩ := X
  obtain ⟨q, hq, hfn, h1, h2, h3⟩ := hg
  intro ad ls H locs hag hH hL hst
  have hRc : S.2.2.1 + 1 - k0 ≤ R.cells := hRc
  have hRs : S.2.2.2 + zi_fn x - s0 ≤ R.slots := hRs
  refine va_new (D := D) (cl := vwCl) (ci := x) (fs := zi_new x) (C := q.1) (T := q.2.1) (N := q.2.2) hx hb hts (hcls x q hq).1 (zi_ft x) (hcls x q hq).2.1 hown (hts _ h1) (hts _ h2) (hts _ h3) hK hH.1 hH.2.1 hH.2.2.1 hA hq (fun j hj => zi_new_def x hx13 j (by rw [← hfn]; exact hj)) (by omega) (by rw [hfn]; omega) hd (fun a H1 hP hD hS => ?_)
  have e1 : ∀ ad', zi_e cy ad' (.inr (x, zi_new x)) = .inr (x, zi_new x) := fun ad' => by simp only [zi_e]; rw [zi_new_v]
  rw [hfn]
  exact zi_grow (cl := .inr (x, zi_new x)) hn0 hk hs hn hag hH hL hst (zi_new_ok _ x) (by rw [e1]; exact hP) (by rw [e1]; exact hD) hS kk
theorem zi_q_newa {t : Nat} {at_ : ClassFile.ArrayType} {ty : FieldType} (hty : newarray.typeOf at_ = ty) (htt : (zi_tys cy)[t]? = some (cy t, ty)) (hne : ∀ C, ty ≠ .object C) (harr : ∀ (cA : ClassId) (N : Nat), vp_cell cA (zi_arr t N) = arrV cA N (fun _ => defaultValue ty)) (hcb : componentBytes ty ≤ 8) (X : zi_X p s m args meth c R D cy A cc nL o nm rt ad0) (hd : decode cc pc = .ok (.newarray at_, 2)) (hg : Cond.arrayClass (newarray.typeOf at_) ∈ zi_tb) (hex : zi_mka 2 pc L st S t = some (.inl (pc', L', st', S'))) (hn0 : n0 ≤ S.2.1) (hk : k0 ≤ S.2.2.1) (hs : s0 ≤ S.2.2.2) (hRc : S'.2.2.1 - k0 ≤ R.cells) (hRs : S'.2.2.2 - s0 ≤ R.slots) (kk : zi_Go p l e R s m args below meth c Q D cy A nL n0 ad0 k0 s0 pc' L' st' S') : zi_Go p l e R s m args below meth c Q D cy A nL n0 ad0 k0 s0 pc L st S := by
  obtain ⟨k, r, rfl, hin, hn, rfl, rfl, rfl, rfl⟩ := zi_mka_inv hex
  obtain ⟨hx, hb, hml, hown, hts, hN, hK, hA, hcls, hnm, -⟩ := X
  intro ad ls H locs hag hH hL hst
  have hRc : S.2.2.1 + 1 - k0 ≤ R.cells := hRc
  have hRs : S.2.2.2 + k.toNatClampNeg - s0 ≤ R.slots := hRs
  have hkl : k.toNatClampNeg < 100000 := Nat.not_le.mp fun q => hin (Or.inr q)
  have hby : k.toNatClampNeg * componentBytes ty ≤ 536870912 := Nat.le_trans (Nat.mul_le_mul (Nat.le_of_lt hkl) hcb) (by decide)
  refine va_newa (D := D) (cl := vwCl) (a0 := zi_arr t k.toNatClampNeg) hx hb (hts _ hg) hty hK hH.1 hH.2.1 hH.2.2.1 hA (fun cA => harr cA _) (fun q => hin (Or.inl q)) rfl hby (by omega) (by omega) hd (fun q cA H1 hK1 hP hD hS => ?_)
  have ec : cA = cy t := by
    have g1 := (hK1.2 4 (cA, ty) rfl).2
    have g2 := (hK.2 t _ htt).2
    have go : ∀ ty : FieldType, (∀ C, ty ≠ .object C) → va_RA s cA ty → va_RA s (cy t) ty → cA = cy t := by
      intro ty hne g1 g2
      cases ty with
      | object C => exact absurd rfl (hne C)
      | _ => exact Option.some.inj (g1.symm.trans g2)
    exact go ty hne g1 g2
  subst ec
  exact zi_grow hn0 hk hs hn hag hH hL (zi_all_tail hst) (zi_arr_ok _ _ _) (by rw [zi_arr_e]; exact hP) (by rw [zi_arr_e]; exact hD) hS kk
theorem zi_q_newq {ix : Nat} (X : zi_X p s m args meth c R D cy A cc nL o nm rt ad0) (hd : decode cc pc = .ok (.anewarray ix, 3)) (hg : Cond.classLink (zi_cn o) ix RX3 ∈ zi_tb ∧ Cond.arrayOver (.object RX3) ∈ zi_nw) (hex : zi_mka 3 pc L st S 3 = some (.inl (pc', L', st', S'))) (hn0 : n0 ≤ S.2.1) (hk : k0 ≤ S.2.2.1) (hs : s0 ≤ S.2.2.2) (hRc : S'.2.2.1 - k0 ≤ R.cells) (hRs : S'.2.2.2 - s0 ≤ R.slots) (kk : zi_Go p l e R s m args below meth c Q D cy A nL n0 ad0 k0 s0 pc' L' st' S') : zi_Go p l e R s m args below meth c Q D cy A nL n0 ad0 k0 s0 pc L st S := by
  obtain ⟨k, r, rfl, hin, hn, rfl, rfl, rfl, rfl⟩ := zi_mka_inv hex
  obtain ⟨hx, hb, hml, hown, hts, hN, hK, hA, hcls, hnm, -⟩ := X
  intro ad ls H locs hag hH hL hst
  have hRc : S.2.2.1 + 1 - k0 ≤ R.cells := hRc
  have hRs : S.2.2.2 + k.toNatClampNeg - s0 ≤ R.slots := hRs
  have hkl : k.toNatClampNeg < 100000 := Nat.not_le.mp fun q => hin (Or.inr q)
  refine va_newq (D := D) (cl := vwCl) hx hb hown (hts _ hg.1) (hN _ hg.2) hK hH.1 hH.2.1 hH.2.2.1 hA (fun q => hin (Or.inl q)) rfl (by omega) (by omega) (by omega) hd (fun q cA H1 hK1 hP hD hS => ?_)
  have ec : cA = cy 3 := by
    have g1 := (hK1.2 4 (cA, .object RX3) rfl).2
    have g2 := (hK.2 3 (cy 3, .object RX3) rfl).2
    obtain ⟨_, _, _, _, _, g1⟩ := g1
    obtain ⟨_, _, _, _, _, g2⟩ := g2
    exact Option.some.inj (g1.symm.trans g2)
  subst ec
  exact zi_grow hn0 hk hs hn hag hH hL (zi_all_tail hst) (zi_arr_ok _ 3 _) hP hD hS kk
theorem zi_q_cpy {ix : Nat} (X : zi_X p s m args meth c R D cy A cc nL o nm rt ad0) (hd : decode cc pc = .ok (.invokestatic ix, 3)) (hg : Cond.methodLink (zi_cn o) ix arraycopyName ∈ zi_tb ∧ Cond.native arraycopyName ∈ zi_tb ∧ Cond.static arraycopyName ∈ zi_tb ∧ Cond.initialized "java/lang/System" ∈ zi_tb) (hex : zi_cpy pc L st S = some (.inl (pc', L', st', S'))) (kk : zi_Go p l e R s m args below meth c Q D cy A nL n0 ad0 k0 s0 pc' L' st' S') : zi_Go p l e R s m args below meth c Q D cy A nL n0 ad0 k0 s0 pc L st S := by
  obtain ⟨n, dp, a, sp, b, n1, g, nz, f, rfl, hc, hc2, ha, hb2, q1, q2, q3, q4, q5, hsm, rfl, rfl, rfl⟩ := zi_cpy_inv hex
  obtain ⟨hx, hb, hml, hown, hts, hN, hK, hA, hcls, hnm, hret, hlk, hRf, hRl, hSF⟩ := X
  intro ad ls H locs hag hH hL hst
  have he : (zi_w cy ad S.1 S.2.1)[a]? = some (ad a, .inl (cy 0, n1, .inl g)) := by rw [zi_w_get ha, hc]; rfl
  have he2 : (zi_w cy ad S.1 S.2.1)[b]? = some (ad b, .inl (cy 0, nz, .inl f)) := by rw [zi_w_get hb2, hc2]; rfl
  have hsz := zi_sm_map (ad := ad) hsm
  have hnf : nativeFrameWords "java/lang/System" "arraycopy" 5 + 11 ≤ 56 := by decide +kernel
  refine va_copyi (D := D) (cl := vwCl) hx hb (hml.trans hL.1.symm) hown (hts _ hg.1) (hts _ hg.2.1) (hts _ hg.2.2.1) (hts _ hg.2.2.2) hK hH.1 hH.2.1 hH.2.2.1 b a 0 0 he2 he rfl rfl rfl q1 q2 q3 q4 q5 (fun _ _ => rfl) hRf (by omega) hd fun H1 locs1 hP hD hS => ?_
  exact kk ad ls H1 locs1 hag (zi_Hp.put (c := .inl (0, n1, .inl (va_cpy f g sp.toNatClampNeg dp.toNatClampNeg n.toNatClampNeg))) hH ha trivial hP hD hS) hL (zi_all_tail (zi_all_tail (zi_all_tail (zi_all_tail (zi_all_tail hst)))))
theorem zi_q_max {ix : Nat} (X : zi_X p s m args meth c R D cy A cc nL o nm rt ad0) (hd : decode cc pc = .ok (.invokestatic ix, 3)) (hg : Cond.methodLink (zi_cn o) ix Lib.Math.max.name ∈ zi_tb ∧ Cond.static Lib.Math.max.name ∈ zi_tb ∧ Cond.initialized "java/lang/Math" ∈ zi_tb ∧ Cond.code Lib.Math.max.name Lib.Math.max.code 2 (some .int) ∈ zi_tb) (hRc : S'.2.2.1 - k0 ≤ R.cells) (hRs : S'.2.2.2 - s0 ≤ R.slots) (hex : zi_m2 pc L st S (fun x y => if x < y then y else x) = some (.inl (pc', L', st', S'))) (kk : zi_Go p l e R s m args below meth c Q D cy A nL n0 ad0 k0 s0 pc' L' st' S') : zi_Go p l e R s m args below meth c Q D cy A nL n0 ad0 k0 s0 pc L st S := by
  obtain ⟨x, y, r, rfl, hsm, rfl, rfl, rfl, rfl⟩ := zi_m2_inv hex
  obtain ⟨hx, hb, hml, hown, hts, hN, hK, hA, hcls, hnm, hret, hlk, hRf, hRl, hSF⟩ := X
  intro ad ls H locs hag hH hL hst
  have hsz := zi_sm_map (ad := ad) hsm
  exact va_mmax hx hb (hml.trans hL.1.symm) hown (hts _ hg.1) (hts _ hg.2.1) (hts _ hg.2.2.1) (hts _ hg.2.2.2) hRf (by omega) hRc hRs hd (kk ad ls H locs hag hH hL (zi_all_cons trivial (zi_all_tail (zi_all_tail hst))))
theorem zi_q_min {ix : Nat} (X : zi_X p s m args meth c R D cy A cc nL o nm rt ad0) (hd : decode cc pc = .ok (.invokestatic ix, 3)) (hg : Cond.methodLink (zi_cn o) ix Lib.Math.min.name ∈ zi_tb ∧ Cond.static Lib.Math.min.name ∈ zi_tb ∧ Cond.initialized "java/lang/Math" ∈ zi_tb ∧ Cond.code Lib.Math.min.name Lib.Math.min.code 2 (some .int) ∈ zi_tb) (hRc : S'.2.2.1 - k0 ≤ R.cells) (hRs : S'.2.2.2 - s0 ≤ R.slots) (hex : zi_m2 pc L st S (fun x y => if y < x then y else x) = some (.inl (pc', L', st', S'))) (kk : zi_Go p l e R s m args below meth c Q D cy A nL n0 ad0 k0 s0 pc' L' st' S') : zi_Go p l e R s m args below meth c Q D cy A nL n0 ad0 k0 s0 pc L st S := by
  obtain ⟨x, y, r, rfl, hsm, rfl, rfl, rfl, rfl⟩ := zi_m2_inv hex
  obtain ⟨hx, hb, hml, hown, hts, hN, hK, hA, hcls, hnm, hret, hlk, hRf, hRl, hSF⟩ := X
  intro ad ls H locs hag hH hL hst
  have hsz := zi_sm_map (ad := ad) hsm
  exact va_mmin hx hb (hml.trans hL.1.symm) hown (hts _ hg.1) (hts _ hg.2.1) (hts _ hg.2.2.1) (hts _ hg.2.2.2) hRf (by omega) hRc hRs hd (kk ad ls H locs hag hH hL (zi_all_cons trivial (zi_all_tail (zi_all_tail hst))))
theorem zi_q_obj {ix : Nat} (X : zi_X p s m args meth c R D cy A cc nL o nm rt ad0) (hd : decode cc pc = .ok (.invokespecial ix, 3)) (hg : Cond.methodLink (zi_cn o) ix Lib.objectInit ∈ zi_tb ∧ Cond.instanceMethod Lib.objectInit ∈ zi_tb ∧ Cond.code Lib.objectInit ⟨#[0xb1]⟩ 1 none ∈ zi_tb) {a : Nat} {r : List Value} (hsm : zi_sm r = true) (kk : zi_Go p l e R s m args below meth c Q D cy A nL n0 ad0 k0 s0 (pc + 3) L r S) : zi_Go p l e R s m args below meth c Q D cy A nL n0 ad0 k0 s0 pc L (.ref a :: r) S := by
  obtain ⟨hx, hb, hml, hown, hts, hN, hK, hA, hcls, hnm, hret, hlk, hRf, hRl, hSF⟩ := X
  intro ad ls H locs hag hH hL hst
  have hsz := zi_sm_map (ad := ad) hsm
  refine W.objInit (g := F0 m pc ls (.ref (ad a) :: r.map (zi_v ad))) hx hb hown (hts _ hg.1) (hts _ hg.2.1) (hts _ hg.2.2) rfl (by rw [hml]; exact hL.1) rfl hd hRf ?_ (kk ad ls H locs hag hH hL (zi_all_tail hst))
  show 2 * 0 + _ + 12 ≤ _
  omega
end ZW
end
section
/-! ===== switches; a step; a return ===== -/
theorem zi_sw_out {v : Int32} {d : Nat} : ∀ {z : List (Int32 × Nat)}, (∀ q ∈ z, v ≠ q.1) → zi_sw v z d = d
  | [], _ => rfl
  | (k, t) :: r, h => by
    simp only [zi_sw]
    rw [if_neg (h (k, t) List.mem_cons_self)]
    exact zi_sw_out fun q hq => h q (List.mem_cons_of_mem _ hq)
theorem zi_sw_in {v : Int32} {d : Nat} : ∀ {z : List (Int32 × Nat)} {k : Nat} {e : Int32 × Nat}, z[k]? = some e → v = e.1 → (∀ j q, j < k → z[j]? = some q → v ≠ q.1) → zi_sw v z d = e.2
  | [], k, e, h, _, _ => by simp at h
  | (a, t) :: r, 0, e, h, hv, _ => by
    simp at h
    subst h
    simp only [zi_sw]
    rw [if_pos hv]
  | (a, t) :: r, k + 1, e, h, hv, hn => by
    simp only [zi_sw]
    rw [if_neg (hn 0 (a, t) (Nat.succ_pos k) rfl)]
    exact zi_sw_in (by simpa using h) hv fun j q hj hq => hn (j + 1) q (Nat.succ_lt_succ hj) (by simpa using hq)
theorem zi_lsw_sw {pc : Nat} {d : Int} {dt : Nat} {v : Int32} (hd : (pc : Int) + d = dt) : ∀ {ps : List (Int × Int)} {z : List (Int32 × Nat)}, zi_lsw pc ps z → ∃ off, Op.lookupswitch.offset ps d v.toInt = off ∧ (pc : Int) + off = (zi_sw v z dt : Nat)
  | [], [], _ => ⟨d, by simp [Op.lookupswitch.offset], hd⟩
  | [], _ :: _, h => h.elim
  | _ :: _, [], h => h.elim
  | a :: as, b :: bs, h => by
    obtain ⟨h1, h2, h3⟩ := h
    obtain ⟨a1, a2⟩ := a
    obtain ⟨b1, b2⟩ := b
    rw [Op.lookupswitch.offset_cons]
    simp only [zi_sw]
    by_cases hv : v = b1
    · subst hv
      rw [if_pos (by first | exact h1 | exact h1.symm), if_pos rfl]
      exact ⟨_, rfl, h2⟩
    · rw [if_neg (fun q => hv (Int32.toInt_inj.mp (by first | exact q.trans h1.symm | exact (h1.trans q).symm | exact h1.trans q))), if_neg hv]
      exact zi_lsw_sw hd h3
section ZX
variable {p : Program} {l : Launch} {e : Env} {R : Room} {s : State} {m : MethodId} {args : Array Value} {below : List Frame} {meth : Method} {c : Code} {Q : State → Prop} {D : va_G} {cy : Nat → ClassId} {A : Nat → Prop} {cc : ByteArray} {nL n0 k0 s0 o rt : Nat} {nm : String} {ad0 : Nat → Nat} {pc pc' : Nat} {L L' : zi_L} {st st' : List Value} {S S' : zi_S}
theorem zi_q_tsw {d lo hi : Int} {offs : Array Int} {len x : Nat} {z : List (Int32 × Nat)} {v : Int32} {r : List Value} (X : zi_X p s m args meth c R D cy A cc nL o nm rt ad0) (hd : decode cc pc = .ok (.tableswitch d lo hi offs, len)) (hg : (pc : Int) + d = x ∧ hi = lo + offs.size - 1 ∧ zi_tsw pc lo offs.toList z) (kk : zi_Go p l e R s m args below meth c Q D cy A nL n0 ad0 k0 s0 (zi_sw v z x) L r S) : zi_Go p l e R s m args below meth c Q D cy A nL n0 ad0 k0 s0 pc L (.int v :: r) S := by
  obtain ⟨hx, hb, hml, hown, hts, hN, hK, hA, hcls, hnm, hret, hlk, hRf, hRl, hSF⟩ := X
  obtain ⟨h1, h2, h3, h4⟩ := hg
  intro ad ls H locs hag hH hL hst
  have k := kk ad ls H locs hag hH hL (zi_all_tail hst)
  have hlen : offs.toList.length = offs.size := Array.length_toList
  by_cases hv : v.toInt < lo ∨ hi < v.toInt
  · rw [zi_sw_out (fun q hq => ?_)] at k
    · exact lv_tableOut hx hb hd hv h1 k
    · intro e1
      obtain ⟨j, hj⟩ := List.getElem?_of_mem hq
      have hjl : j < offs.toList.length := by rw [← h3]; exact (List.getElem?_eq_some_iff.mp hj).1
      obtain ⟨e2, off, g1, g2, g3, g4⟩ := h4 j hjl
      rw [hj] at g1
      cases g1
      rw [e1] at hv
      omega
  · have hv1 : ¬ v.toInt < lo := fun q => hv (Or.inl q)
    have hv2 : ¬ hi < v.toInt := fun q => hv (Or.inr q)
    have hj : (v.toInt - lo).toNat < offs.toList.length := by omega
    obtain ⟨e2, off, g1, g2, g3, g4⟩ := h4 _ hj
    have hve : v = e2.1 := Int32.toInt_inj.mp (by rw [g3]; omega)
    rw [zi_sw_in g1 hve (fun j q hjk hq e1 => ?_)] at k
    · exact lv_tableIn hx hb hd hv1 hv2 (by rw [← Array.getElem?_toList]; exact g2) g4 k
    · obtain ⟨e3, off3, g5, g6, g7, g8⟩ := h4 j (by omega)
      rw [hq] at g5
      cases g5
      rw [e1, g7] at hjk
      omega
theorem zi_q_lsw {d : Int} {ps : Array (Int × Int)} {len x : Nat} {z : List (Int32 × Nat)} {v : Int32} {r : List Value} (X : zi_X p s m args meth c R D cy A cc nL o nm rt ad0) (hd : decode cc pc = .ok (.lookupswitch d ps, len)) (hg : (pc : Int) + d = x ∧ (ps.toList.zip (ps.toList.drop 1)).all (fun (a, next) => a.1 < next.1) = true ∧ zi_lsw pc ps.toList z) (kk : zi_Go p l e R s m args below meth c Q D cy A nL n0 ad0 k0 s0 (zi_sw v z x) L r S) : zi_Go p l e R s m args below meth c Q D cy A nL n0 ad0 k0 s0 pc L (.int v :: r) S := by
  obtain ⟨hx, hb, hml, hown, hts, hN, hK, hA, hcls, hnm, hret, hlk, hRf, hRl, hSF⟩ := X
  obtain ⟨h1, h2, h3⟩ := hg
  intro ad ls H locs hag hH hL hst
  obtain ⟨off, ho, ht⟩ := zi_lsw_sw (v := v) h1 h3
  exact lv_lookup hx hb hd h2 ho ht (kk ad ls H locs hag hH hL (zi_all_tail hst))
end ZX
end
section
/-! ===== a step ===== -/
section ZY
variable {p : Program} {l : Launch} {e : Env} {R : Room} {s : State} {m : MethodId} {args : Array Value} {below : List Frame} {meth : Method} {c : Code} {Q : State → Prop} {D : va_G} {cy : Nat → ClassId} {A : Nat → Prop} {cc : ByteArray} {nL n0 k0 s0 o rt : Nat} {nm : String} {ad0 : Nat → Nat} {pc pc' : Nat} {L L' : zi_L} {st st' : List Value} {S S' : zi_S} {M : Nat → Option zi_MI}
theorem zi_q_if1 {k : ClassFile.Cond} {off : Int} {x : Nat} (X : zi_X p s m args meth c R D cy A cc nL o nm rt ad0) (hd : decode cc pc = .ok (.ifCond k off, 3)) (hg : (pc : Int) + off = x) (hex : zi_if1 pc x L st S k = some (.inl (pc', L', st', S'))) (kk : zi_Go p l e R s m args below meth c Q D cy A nL n0 ad0 k0 s0 pc' L' st' S') : zi_Go p l e R s m args below meth c Q D cy A nL n0 ad0 k0 s0 pc L st S := by
  obtain ⟨hx, hb, -⟩ := X
  unfold zi_if1 at hex
  split at hex
  · rename_i v r
    cases k
    · exact zi_q_br (st := [.int v]) (fun a b => lv_if_eq hx hb hd hg a b) (fun _ => rfl) hex kk
    · exact zi_q_br (st := [.int v]) (fun a b => lv_if_ne hx hb hd hg a (fun q => b (fun r => r q))) (fun _ => rfl) hex kk
    · exact zi_q_br (st := [.int v]) (fun a b => lv_if_lt hx hb hd hg a b) (fun _ => rfl) hex kk
    · exact zi_q_br (st := [.int v]) (fun a b => lv_if_ge hx hb hd hg a b) (fun _ => rfl) hex kk
    · exact zi_q_br (st := [.int v]) (fun a b => lv_if_gt hx hb hd hg a b) (fun _ => rfl) hex kk
    · exact zi_q_br (st := [.int v]) (fun a b => lv_if_le hx hb hd hg a b) (fun _ => rfl) hex kk
  · cases hex
theorem zi_q_if2 {k : ClassFile.Cond} {off : Int} {x : Nat} (X : zi_X p s m args meth c R D cy A cc nL o nm rt ad0) (hd : decode cc pc = .ok (.if_icmp k off, 3)) (hg : (pc : Int) + off = x) (hex : zi_if2 pc x L st S k = some (.inl (pc', L', st', S'))) (kk : zi_Go p l e R s m args below meth c Q D cy A nL n0 ad0 k0 s0 pc' L' st' S') : zi_Go p l e R s m args below meth c Q D cy A nL n0 ad0 k0 s0 pc L st S := by
  obtain ⟨hx, hb, -⟩ := X
  unfold zi_if2 at hex
  split at hex
  · rename_i v w r
    cases k
    · exact zi_q_br (st := [.int v, .int w]) (fun a b => lv_icmp_eq hx hb hd hg a b) (fun _ => rfl) hex kk
    · exact zi_q_br (st := [.int v, .int w]) (fun a b => lv_icmp_ne hx hb hd hg a (fun q => b (fun r => r q))) (fun _ => rfl) hex kk
    · exact zi_q_br (st := [.int v, .int w]) (fun a b => lv_icmp_lt hx hb hd hg a b) (fun _ => rfl) hex kk
    · exact zi_q_br (st := [.int v, .int w]) (fun a b => lv_icmp_ge hx hb hd hg a b) (fun _ => rfl) hex kk
    · exact zi_q_br (st := [.int v, .int w]) (fun a b => lv_icmp_gt hx hb hd hg a b) (fun _ => rfl) hex kk
    · exact zi_q_br (st := [.int v, .int w]) (fun a b => lv_icmp_le hx hb hd hg a b) (fun _ => rfl) hex kk
  · cases hex
theorem zi_q_idiv (X : zi_X p s m args meth c R D cy A cc nL o nm rt ad0) (hd : decode cc pc = .ok (.idiv, 1)) (hex : zi_ex rt (.idiv, 1, 0, 0, []) pc L st S = some (.inl (pc', L', st', S'))) (kk : zi_Go p l e R s m args below meth c Q D cy A nL n0 ad0 k0 s0 pc' L' st' S') : zi_Go p l e R s m args below meth c Q D cy A nL n0 ad0 k0 s0 pc L st S := by
  obtain ⟨hx, hb, -⟩ := X
  simp only [zi_ex] at hex
  split at hex
  · split at hex
    · cases hex
    · rename_i y x r hy
      obtain ⟨rfl, rfl, rfl, rfl⟩ := zi_nx_inv hex
      intro ad ls H locs hag hH hL hst
      exact lv_idiv hx hb hd hy (kk ad ls H locs hag hH hL (zi_all_cons trivial (zi_all_tail (zi_all_tail hst))))
  · cases hex
theorem zi_q_irem (X : zi_X p s m args meth c R D cy A cc nL o nm rt ad0) (hd : decode cc pc = .ok (.irem, 1)) (hex : zi_ex rt (.irem, 1, 0, 0, []) pc L st S = some (.inl (pc', L', st', S'))) (kk : zi_Go p l e R s m args below meth c Q D cy A nL n0 ad0 k0 s0 pc' L' st' S') : zi_Go p l e R s m args below meth c Q D cy A nL n0 ad0 k0 s0 pc L st S := by
  obtain ⟨hx, hb, -⟩ := X
  simp only [zi_ex] at hex
  split at hex
  · split at hex
    · cases hex
    · rename_i y x r hy
      obtain ⟨rfl, rfl, rfl, rfl⟩ := zi_nx_inv hex
      intro ad ls H locs hag hH hL hst
      exact lv_irem hx hb hd hy (kk ad ls H locs hag hH hL (zi_all_cons trivial (zi_all_tail (zi_all_tail hst))))
  · cases hex
theorem zi_q_ldiv (X : zi_X p s m args meth c R D cy A cc nL o nm rt ad0) (hd : decode cc pc = .ok (.ldiv, 1)) (hex : zi_ex rt (.ldiv, 1, 0, 0, []) pc L st S = some (.inl (pc', L', st', S'))) (kk : zi_Go p l e R s m args below meth c Q D cy A nL n0 ad0 k0 s0 pc' L' st' S') : zi_Go p l e R s m args below meth c Q D cy A nL n0 ad0 k0 s0 pc L st S := by
  obtain ⟨hx, hb, -⟩ := X
  simp only [zi_ex] at hex
  split at hex
  · split at hex
    · cases hex
    · rename_i y x r hy
      obtain ⟨rfl, rfl, rfl, rfl⟩ := zi_nx_inv hex
      intro ad ls H locs hag hH hL hst
      exact lv_ldiv hx hb hd hy (kk ad ls H locs hag hH hL (zi_all_cons trivial (zi_all_tail (zi_all_tail hst))))
  · cases hex
theorem zi_q_lrem (X : zi_X p s m args meth c R D cy A cc nL o nm rt ad0) (hd : decode cc pc = .ok (.lrem, 1)) (hex : zi_ex rt (.lrem, 1, 0, 0, []) pc L st S = some (.inl (pc', L', st', S'))) (kk : zi_Go p l e R s m args below meth c Q D cy A nL n0 ad0 k0 s0 pc' L' st' S') : zi_Go p l e R s m args below meth c Q D cy A nL n0 ad0 k0 s0 pc L st S := by
  obtain ⟨hx, hb, -⟩ := X
  simp only [zi_ex] at hex
  split at hex
  · split at hex
    · cases hex
    · rename_i y x r hy
      obtain ⟨rfl, rfl, rfl, rfl⟩ := zi_nx_inv hex
      intro ad ls H locs hag hH hL hst
      exact lv_lrem hx hb hd hy (kk ad ls H locs hag hH hL (zi_all_cons trivial (zi_all_tail (zi_all_tail hst))))
  · cases hex
theorem zi_inv_nx {x y : Nat} {w : Nat × zi_L × List Value × zi_S} : ¬ zi_inv st S x y = some (.inl w) := by
  intro h
  unfold zi_inv at h
  split at h
  · split at h
    · obtain ⟨-, h⟩ := zi_cond_inv h
      cases h
    · cases h
  · cases h
theorem zi_invs_nx {x y : Nat} {w : Nat × zi_L × List Value × zi_S} : ¬ zi_invs st x y = some (.inl w) := by
  intro h
  unfold zi_invs at h
  split at h
  · obtain ⟨-, h⟩ := zi_cond_inv h
    cases h
  · cases h
theorem zi_step {q : zi_I} (X0 : zi_X p s m args meth c R D cy A cc nL o nm rt ad0) (hd : decode cc pc = .ok (q.1, q.2.1)) (hlen : q.2.1 = zi_ln q.1 q.2.1) (hg : zi_good M nm o pc q) (hex : zi_ex rt q pc L st S = some (.inl (pc', L', st', S'))) (hn0 : n0 ≤ S.2.1) (hk : k0 ≤ S.2.2.1) (hs : s0 ≤ S.2.2.2) (hRc : S'.2.2.1 - k0 ≤ R.cells) (hRs : S'.2.2.2 - s0 ≤ R.slots) (kk : zi_Go p l e R s m args below meth c Q D cy A nL n0 ad0 k0 s0 pc' L' st' S') : zi_Go p l e R s m args below meth c Q D cy A nL n0 ad0 k0 s0 pc L st S := by
  obtain ⟨i, len, x, y, z⟩ := q
  obtain ⟨hx, hb, hml, hown, hts, hN, hK, hA, hcls, hnm, hret, hlk, hRf, hRl, hSF⟩ := id X0
  dsimp only at hd hlen
  cases i with
  | iconst n =>
    have hlen : len = 1 := hlen
    subst hlen
    exact zi_q_push (v := .int (Int32.ofInt n)) (n := 1) (Or.inl rfl) (fun _ => trivial) (fun _ => rfl) (fun k => lv_iconst hx hb hd rfl k) hex kk
  | bipush n =>
    have hlen : len = 2 := hlen
    subst hlen
    exact zi_q_push (v := .int (Int8.ofInt n).toInt32) (n := 2) (Or.inl rfl) (fun _ => trivial) (fun _ => rfl) (fun k => lv_bipush hx hb hd rfl k) hex kk
  | sipush n =>
    have hlen : len = 3 := hlen
    subst hlen
    exact zi_q_push (v := .int (Int16.ofInt n).toInt32) (n := 3) (Or.inl rfl) (fun _ => trivial) (fun _ => rfl) (fun k => lv_sipush hx hb hd rfl k) hex kk
  | lconst n =>
    have hlen : len = 1 := hlen
    subst hlen
    exact zi_q_push (v := .long (Int64.ofNat n)) (n := 1) (Or.inr rfl) (fun _ => trivial) (fun _ => rfl) (fun k => lv_lconst hx hb hd rfl k) hex kk
  | ldc n =>
    have hlen : len = 2 := hlen
    subst hlen
    cases y with
    | zero => exact zi_q_push (v := .int (Int32.ofNat x)) (n := 2) (Or.inl rfl) (fun _ => trivial) (fun _ => rfl) (fun k => lv_ldc hx hb hown (hts _ hg) hd k) hex kk
    | succ y =>
      obtain ⟨j, hj, hg⟩ : ∃ j, x = 2 * j ∧ (o, n, j) ∈ zi_TT := hg
      subst hj
      obtain ⟨rfl, rfl, rfl, rfl⟩ := zi_nx_inv hex
      exact zi_q_ldcT X0 hd hg kk
  | ldc_w n =>
    have hlen : len = 3 := hlen
    subst hlen
    cases y with
    | zero => exact zi_q_push (v := .int (Int32.ofNat x)) (n := 3) (Or.inl rfl) (fun _ => trivial) (fun _ => rfl) (fun k => lv_ldcw hx hb hown (hts _ hg) hd k) hex kk
    | succ y =>
      obtain ⟨j, hj, hg⟩ : ∃ j, x = 2 * j ∧ (o, n, j) ∈ zi_TT := hg
      subst hj
      obtain ⟨rfl, rfl, rfl, rfl⟩ := zi_nx_inv hex
      exact zi_q_ldcwT X0 hd hg kk
  | getstatic n =>
    have hlen : len = 3 := hlen
    subst hlen
    obtain ⟨hg1, hg⟩ : x = 1 ∧ _ := hg
    subst hg1
    obtain ⟨rfl, rfl, rfl, rfl⟩ := zi_nx_inv hex
    exact zi_q_gets X0 hd hg kk
  | ldc2_w n =>
    have hlen : len = 3 := hlen
    subst hlen
    exact zi_q_push (v := .long (Int64.ofNat x)) (n := 3) (Or.inr rfl) (fun _ => trivial) (fun _ => rfl) (fun k => lv_ldc2 hx hb hown (hts _ hg) hd k) hex kk
  | iload_n n =>
    have hlen : len = 1 := hlen
    subst hlen
    exact zi_q_iload (n := 1) (fun a k => lv_iload_n hx hb hd rfl a k) hex kk
  | iload n =>
    have hlen : len = 2 := hlen
    subst hlen
    exact zi_q_iload (n := 2) (fun a k => lv_iload hx hb hd a k) hex kk
  | istore_n n =>
    have hlen : len = 1 := hlen
    subst hlen
    exact zi_q_istore (n := 1) (fun a b k => lv_istore_n hx hb hd rfl a b rfl k) hex kk
  | istore n =>
    have hlen : len = 2 := hlen
    subst hlen
    exact zi_q_istore (n := 2) (fun a b k => lv_istore hx hb hd a b rfl k) hex kk
  | lload_n n =>
    have hlen : len = 1 := hlen
    subst hlen
    exact zi_q_lload (n := 1) (fun a k => lv_lload_n hx hb hd rfl a k) hex kk
  | lload n =>
    have hlen : len = 2 := hlen
    subst hlen
    exact zi_q_lload (n := 2) (fun a k => lv_lload hx hb hd a k) hex kk
  | lstore_n n =>
    have hlen : len = 1 := hlen
    subst hlen
    exact zi_q_lstore (n := 1) (fun a b k => lv_lstore_n hx hb hd rfl a b rfl k) hex kk
  | lstore n =>
    have hlen : len = 2 := hlen
    subst hlen
    exact zi_q_lstore (n := 2) (fun a b k => lv_lstore hx hb hd a b rfl k) hex kk
  | aload_n n =>
    have hlen : len = 1 := hlen
    subst hlen
    exact zi_q_aload (n := 1) (fun a k => lv_aload_n hx hb hd rfl a k) hex kk
  | aload n =>
    have hlen : len = 2 := hlen
    subst hlen
    exact zi_q_aload (n := 2) (fun a k => lv_aload hx hb hd a k) hex kk
  | astore_n n =>
    have hlen : len = 1 := hlen
    subst hlen
    exact zi_q_astore (n := 1) (fun a b k => lv_astore_n hx hb hd rfl a b rfl k) hex kk
  | astore n =>
    have hlen : len = 2 := hlen
    subst hlen
    exact zi_q_astore (n := 2) (fun a b k => lv_astore hx hb hd a b rfl k) hex kk
  | iinc i n =>
    have hlen : len = 3 := hlen
    subst hlen
    simp only [zi_ex] at hex
    split at hex
    · rename_i v hv
      obtain ⟨L1, h3, h4⟩ := Option.bind_eq_some_iff.mp hex
      obtain ⟨rfl, rfl, rfl, rfl⟩ := zi_nx_inv h4
      intro ad ls H locs hag hH hL hst
      obtain ⟨k, hk⟩ := List.getElem?_of_mem (zi_as_mem (ad := ad) (q := (i, .int v)).mpr ⟨.int v, hv, rfl⟩)
      exact lv_iinc hx hb hd hL.has hk rfl (by rw [← hL.2.1]; exact (zi_st1_inv h3).1) rfl fun ls' hl' => kk ad ls' H locs hag hH (hL.st1 (v := .int (v + Int32.ofInt n)) h3 trivial hl') hst
    · cases hex
  | iadd =>
    have hlen : len = 1 := hlen
    subst hlen
    exact zi_q_i2 (f := fun x y => x + y) (fun k => lv_iadd hx hb hd k) hex kk
  | isub =>
    have hlen : len = 1 := hlen
    subst hlen
    exact zi_q_i2 (f := fun x y => x - y) (fun k => lv_isub hx hb hd k) hex kk
  | imul =>
    have hlen : len = 1 := hlen
    subst hlen
    exact zi_q_i2 (f := fun x y => x * y) (fun k => lv_imul hx hb hd k) hex kk
  | iand =>
    have hlen : len = 1 := hlen
    subst hlen
    exact zi_q_i2 (f := fun x y => x &&& y) (fun k => lv_iand hx hb hd k) hex kk
  | ior =>
    have hlen : len = 1 := hlen
    subst hlen
    exact zi_q_i2 (f := fun x y => x ||| y) (fun k => lv_ior hx hb hd k) hex kk
  | ixor =>
    have hlen : len = 1 := hlen
    subst hlen
    exact zi_q_i2 (f := fun x y => x ^^^ y) (fun k => lv_ixor hx hb hd k) hex kk
  | ishl =>
    have hlen : len = 1 := hlen
    subst hlen
    exact zi_q_i2 (f := fun x y => x <<< (y &&& 31)) (fun k => lv_ishl hx hb hd k) hex kk
  | ishr =>
    have hlen : len = 1 := hlen
    subst hlen
    exact zi_q_i2 (f := fun x y => x >>> (y &&& 31)) (fun k => lv_ishr hx hb hd k) hex kk
  | iushr =>
    have hlen : len = 1 := hlen
    subst hlen
    exact zi_q_i2 (f := fun x y => (x.toUInt32 >>> (y.toUInt32 &&& Int32.toUInt32 31)).toInt32) (fun k => lv_iushr hx hb hd rfl k) hex kk
  | ineg =>
    have hlen : len = 1 := hlen
    subst hlen
    exact zi_q_i1 (f := fun x => -x) (fun k => lv_ineg hx hb hd k) hex kk
  | i2b =>
    have hlen : len = 1 := hlen
    subst hlen
    exact zi_q_i1 (f := fun x => x.toInt8.toInt32) (fun k => lv_i2b hx hb hd rfl k) hex kk
  | i2s =>
    have hlen : len = 1 := hlen
    subst hlen
    exact zi_q_i1 (f := fun x => x.toInt16.toInt32) (fun k => lv_i2s hx hb hd rfl k) hex kk
  | i2c =>
    have hlen : len = 1 := hlen
    subst hlen
    exact zi_q_i1 (f := fun x => (x.toUInt32 % 65536).toInt32) (fun k => lv_i2c hx hb hd rfl k) hex kk
  | ladd =>
    have hlen : len = 1 := hlen
    subst hlen
    exact zi_q_l2 (f := fun x y => x + y) (fun k => lv_ladd hx hb hd k) hex kk
  | lsub =>
    have hlen : len = 1 := hlen
    subst hlen
    exact zi_q_l2 (f := fun x y => x - y) (fun k => lv_lsub hx hb hd k) hex kk
  | lmul =>
    have hlen : len = 1 := hlen
    subst hlen
    exact zi_q_l2 (f := fun x y => x * y) (fun k => lv_lmul hx hb hd k) hex kk
  | idiv =>
    have hlen : len = 1 := hlen
    subst hlen
    exact zi_q_idiv X0 hd hex kk
  | irem =>
    have hlen : len = 1 := hlen
    subst hlen
    exact zi_q_irem X0 hd hex kk
  | ldiv =>
    have hlen : len = 1 := hlen
    subst hlen
    exact zi_q_ldiv X0 hd hex kk
  | lrem =>
    have hlen : len = 1 := hlen
    subst hlen
    exact zi_q_lrem X0 hd hex kk
  | i2l =>
    have hlen : len = 1 := hlen
    subst hlen
    simp only [zi_ex] at hex
    split at hex
    · obtain ⟨rfl, rfl, rfl, rfl⟩ := zi_nx_inv hex
      intro ad ls H locs hag hH hL hst
      exact lv_i2l hx hb hd rfl (kk ad ls H locs hag hH hL (zi_all_cons trivial (zi_all_tail hst)))
    · cases hex
  | lcmp =>
    have hlen : len = 1 := hlen
    subst hlen
    simp only [zi_ex] at hex
    split at hex
    · obtain ⟨rfl, rfl, rfl, rfl⟩ := zi_nx_inv hex
      intro ad ls H locs hag hH hL hst
      exact W.lcmp hx hb hd (kk ad ls H locs hag hH hL (zi_all_cons trivial (zi_all_tail (zi_all_tail hst))))
    · cases hex
  | dup =>
    have hlen : len = 1 := hlen
    subst hlen
    simp only [zi_ex] at hex
    split at hex
    · obtain ⟨h1, h2⟩ := zi_cond_inv hex
      obtain ⟨rfl, rfl, rfl, rfl⟩ := zi_nx_inv h2
      intro ad ls H locs hag hH hL hst
      exact lv_dup hx hb hd (by rw [zi_v_cat]; exact zi_k1_cat h1) (kk ad ls H locs hag hH hL (zi_all_cons (zi_all_head hst) hst))
    · cases hex
  | dup2 =>
    have hlen : len = 1 := hlen
    subst hlen
    simp only [zi_ex] at hex
    split at hex
    · obtain ⟨h1, h2⟩ := zi_cond_inv hex
      rw [Bool.and_eq_true] at h1
      obtain ⟨rfl, rfl, rfl, rfl⟩ := zi_nx_inv h2
      intro ad ls H locs hag hH hL hst
      exact lv_dup2_11 hx hb hd (by rw [zi_v_cat]; exact zi_k1_cat h1.1) (by rw [zi_v_cat]; exact zi_k1_cat h1.2) (kk ad ls H locs hag hH hL (zi_all_cons (zi_all_head hst) (zi_all_cons (zi_all_head (zi_all_tail hst)) hst)))
    · cases hex
  | pop =>
    have hlen : len = 1 := hlen
    subst hlen
    simp only [zi_ex] at hex
    split at hex
    · obtain ⟨h1, h2⟩ := zi_cond_inv hex
      obtain ⟨rfl, rfl, rfl, rfl⟩ := zi_nx_inv h2
      intro ad ls H locs hag hH hL hst
      exact lv_pop hx hb hd (by rw [zi_v_cat]; exact zi_k1_cat h1) (kk ad ls H locs hag hH hL (zi_all_tail hst))
    · cases hex
  | goto off =>
    have hlen : len = 3 := hlen
    subst hlen
    obtain ⟨rfl, rfl, rfl, rfl⟩ := zi_nx_inv hex
    intro ad ls H locs hag hH hL hst
    exact lv_goto hx hb hd hg (kk ad ls H locs hag hH hL hst)
  | ifCond k off =>
    have hlen : len = 3 := hlen
    subst hlen
    exact zi_q_if1 X0 hd hg hex kk
  | if_icmp k off =>
    have hlen : len = 3 := hlen
    subst hlen
    exact zi_q_if2 X0 hd hg hex kk
  | tableswitch d lo hi offs =>
    simp only [zi_ex] at hex
    split at hex
    · obtain ⟨rfl, rfl, rfl, rfl⟩ := zi_nx_inv hex
      exact zi_q_tsw X0 hd hg kk
    · cases hex
  | lookupswitch d ps =>
    simp only [zi_ex] at hex
    split at hex
    · obtain ⟨rfl, rfl, rfl, rfl⟩ := zi_nx_inv hex
      exact zi_q_lsw X0 hd hg kk
    · cases hex
  | getfield ix =>
    have hlen : len = 3 := hlen
    subst hlen
    exact zi_q_getf X0 hd hg hex kk
  | putfield ix =>
    have hlen : len = 3 := hlen
    subst hlen
    exact zi_q_putf X0 hd hg hex kk
  | iaload =>
    have hlen : len = 1 := hlen
    subst hlen
    exact zi_q_iald X0 hd hex kk
  | baload =>
    have hlen : len = 1 := hlen
    subst hlen
    exact zi_q_zald X0 hd hex kk
  | laload =>
    have hlen : len = 1 := hlen
    subst hlen
    exact zi_q_lald X0 hd hex kk
  | aaload =>
    have hlen : len = 1 := hlen
    subst hlen
    exact zi_q_aald X0 hd hex kk
  | iastore =>
    have hlen : len = 1 := hlen
    subst hlen
    exact zi_q_iast X0 hd hex kk
  | bastore =>
    have hlen : len = 1 := hlen
    subst hlen
    exact zi_q_zast X0 hd hex kk
  | lastore =>
    have hlen : len = 1 := hlen
    subst hlen
    exact zi_q_last X0 hd hex kk
  | aastore =>
    have hlen : len = 1 := hlen
    subst hlen
    exact zi_q_aast X0 hd hex kk
  | arraylength =>
    have hlen : len = 1 := hlen
    subst hlen
    exact zi_q_alen X0 hd hex kk
  | newarray t =>
    have hlen : len = 2 := hlen
    subst hlen
    cases t with
    | int => exact zi_q_newa (ty := .int) rfl rfl (fun _ h => by cases h) (fun _ _ => rfl) (by decide) X0 hd hg hex hn0 hk hs hRc hRs kk
    | long => exact zi_q_newa (ty := .long) rfl rfl (fun _ h => by cases h) (fun _ _ => rfl) (by decide) X0 hd hg hex hn0 hk hs hRc hRs kk
    | boolean => exact zi_q_newa (ty := .boolean) rfl rfl (fun _ h => by cases h) (fun _ _ => rfl) (by decide) X0 hd hg hex hn0 hk hs hRc hRs kk
    | _ => cases hex
  | anewarray ix =>
    have hlen : len = 3 := hlen
    subst hlen
    exact zi_q_newq X0 hd hg hex hn0 hk hs hRc hRs kk
  | new ix =>
    have hlen : len = 3 := hlen
    subst hlen
    exact zi_q_new X0 hd hg hex hn0 hk hs hRc hRs kk
  | invokespecial ix =>
    have hlen : len = 3 := hlen
    subst hlen
    simp only [zi_ex] at hex
    cases hb9 : Nat.beq x 9000 with
    | true =>
      rw [hb9] at hex
      have hx9 := zi_beq hb9
      subst hx9
      simp only [cond_true] at hex
      split at hex
      · obtain ⟨h1, h2⟩ := zi_cond_inv hex
        obtain ⟨rfl, rfl, rfl, rfl⟩ := zi_nx_inv h2
        exact zi_q_obj X0 hd hg h1 kk
      · cases hex
    | false =>
      rw [hb9] at hex
      simp only [cond_false] at hex
      exact absurd hex zi_inv_nx
  | invokevirtual ix =>
    have hlen : len = 3 := hlen
    subst hlen
    exact absurd hex zi_inv_nx
  | invokestatic ix =>
    have hlen : len = 3 := hlen
    subst hlen
    simp only [zi_ex] at hex
    split at hex
    · exact zi_q_max X0 hd hg hRc hRs hex kk
    · exact zi_q_min X0 hd hg hRc hRs hex kk
    · exact zi_q_cpy X0 hd hg hex kk
    · exact absurd hex zi_invs_nx
  | ireturn =>
    have hlen : len = 1 := hlen
    subst hlen
    exact absurd hex (by intro h; simp only [zi_ex] at h; (repeat' split at h) <;> cases h)
  | lreturn =>
    have hlen : len = 1 := hlen
    subst hlen
    exact absurd hex (by intro h; simp only [zi_ex] at h; (repeat' split at h) <;> cases h)
  | return_ =>
    have hlen : len = 1 := hlen
    subst hlen
    exact absurd hex (by intro h; simp only [zi_ex] at h; (repeat' split at h) <;> cases h)
  | _ => cases hex
end ZY
end
section
/-! ===== runs and calls of the abstract machine ===== -/
def zi_steps (P : Nat → Option zi_I) (rt : Nat) (call : Nat → List Value → zi_S → Option (Option Value × zi_S)) : Nat → Nat → zi_L → List Value → zi_S → Option (Option Value × zi_S)
  | 0, _, _, _, _ => none
  | f + 1, pc, L, st, S => match P pc with
    | none => none
    | some q => match zi_ex rt q pc L st S with
      | none => none
      | some (.inl w) => zi_steps P rt call f w.1 w.2.1 w.2.2.1 w.2.2.2
      | some (.inr (.inl v)) => some (v, S)
      | some (.inr (.inr w)) => match call w.1 w.2.1 S with
        | none => none
        | some u => zi_steps P rt call f (pc + 3) L (u.1.toList ++ w.2.2) u.2
/-- pr: methods whose contracts are given otherwise -/
def zi_call (P : Nat → Nat → Option zi_I) (M : Nat → Option zi_MI) (pr : Nat → List Value → zi_S → Option (Option Value × zi_S)) (f : Nat) : Nat → Nat → List Value → zi_S → Option (Option Value × zi_S)
  | 0, _, _, _ => none
  | d + 1, x, as, S => match pr x as S with
    | some r => some r
    | none => match M x with
      | none => none
      | some D => cond (Nat.ble (zi_ent as).length D.2.2.1) (zi_steps (P x) D.2.2.2.1 (zi_call P M pr f d) f 0 (zi_ent as ++ List.replicate (D.2.2.1 - (zi_ent as).length) none) [] S) none
def zi_R (d mc ms : Nat) : Room := { frames := d, cells := mc, slots := ms, locals := 64 * d }
def zi_le (S S' : zi_S) : Prop := S.2.1 ≤ S'.2.1 ∧ S.2.2.1 ≤ S'.2.2.1 ∧ S.2.2.2 ≤ S'.2.2.2
theorem zi_le.rf {S : zi_S} : zi_le S S := ⟨Nat.le_refl _, Nat.le_refl _, Nat.le_refl _⟩
theorem zi_le.tr {S S' S'' : zi_S} (h : zi_le S S') (h' : zi_le S' S'') : zi_le S S'' := ⟨Nat.le_trans h.1 h'.1, Nat.le_trans h.2.1 h'.2.1, Nat.le_trans h.2.2 h'.2.2⟩
def zi_Pre (D : va_G) (cy : Nat → ClassId) (ad : Nat → Nat) (as : List Value) (S : zi_S) (sz : Nat) : Array Value → State → Prop := va_Pc (as.map (zi_v ad)) (fun U => U.heap.size = sz ∧ va_P D vwCl (zi_w cy ad S.1 S.2.1) U.heap ∧ va_K D vwCl (zi_tys cy) U ∧ va_D (fun _ => True) (zi_w cy ad S.1 S.2.1) ∧ (∀ w ∈ zi_nw, va_Nw w U) ∧ zi_SF ad (va_A (zi_w cy ad S.1 S.2.1) sz) U U.heap)
def zi_wfS (S : zi_S) : Prop := (∀ k, k < S.2.1 → zi_okC S.2.1 (S.1 k)) ∧ S.2.1 ≤ 1000000 ∧ ∀ k, 1000000 ≤ k → S.1 k = zi_ro k
def zi_B (D : va_G) (cy : Nat → ClassId) (ad : Nat → Nat) (S : zi_S) (v : Option Value) (S' : zi_S) (sz : Nat) (oc : Outcome) (t : State) : Prop := ∃ ad', zi_ag S.2.1 ad ad' ∧ oc = .returned v ∧ va_P D vwCl (zi_w cy ad' S'.1 S'.2.1) t.heap ∧ va_D (va_A (zi_w cy ad S.1 S.2.1) sz) (zi_w cy ad' S'.1 S'.2.1)
def zi_Post (D : va_G) (cy : Nat → ClassId) (ad : Nat → Nat) (S : zi_S) (v : Option Value) (S' : zi_S) (sz : Nat) : Array Value → State → Outcome → State → Prop := fun _ st oc t => (zi_B D cy ad S v S' sz oc t ∧ zi_wfS S') ∧ va_F (va_A (zi_w cy ad S.1 S.2.1) sz) st t
/-- what is returned is a number or nothing -/
def zi_num : Option Value → Prop
  | none => True
  | some (.int _) => True
  | some (.long _) => True
  | _ => False
theorem zi_num_v {v : Option Value} (h : zi_num v) (ad : Nat → Nat) : v.toList.map (zi_v ad) = v.toList := by
  rcases v with _ | v
  · rfl
  · cases v <;> first | rfl | exact h.elim
theorem zi_num_ok {v : Option Value} (h : zi_num v) (n : Nat) : ∀ w ∈ v.toList, zi_ok n w := by
  rcases v with _ | v
  · intro w hw
    cases hw
  · intro w hw
    have e : w = v := by simpa using hw
    subst e
    cases w <;> first | trivial | exact h.elim
/-- the contract of method x at depth d -/
def zi_Met (l : Launch) (M : Nat → Option zi_MI) (d x : Nat) (as : List Value) (S : zi_S) (v : Option Value) (S' : zi_S) : Prop := zi_le S S' ∧ zi_num v ∧ ∀ (DM : zi_MI) (D : va_G) (cy : Nat → ClassId) (ad : Nat → Nat) (sz : Nat), M x = some DM → zi_wfS S → (∀ w ∈ as, zi_ok S.2.1 w) → Met l DM.1 (Cond.code DM.1 DM.2.1 DM.2.2.1 (zi_rt DM.2.2.2.1) :: zi_tb) (zi_R d (S'.2.2.1 - S.2.2.1) (S'.2.2.2 - S.2.2.2)) (zi_Pre D cy ad as S sz) (zi_Post D cy ad S v S' sz) (S'.2.2.1 - S.2.2.1) (S'.2.2.2 - S.2.2.2) (va_A (zi_w cy ad S.1 S.2.1) sz)
theorem zi_nw_is {w : Cond} (h : w ∈ zi_nw) : zi_isN w = true := (List.mem_filter.mp h).2
theorem zi_nw_warm {s U : State} (hW : s.WarmedH U.vm) (h : ∀ w ∈ zi_nw, va_Nw w s) : ∀ w ∈ zi_nw, va_Nw w U := by
  intro w hw
  have h1 := h w hw
  have h2 := zi_nw_is hw
  cases w with
  | fieldLinkNest a b c d e f => exact va_Nw.warmF hW h1
  | methodLinkNest a b c d => exact va_Nw.warmM hW h1
  | arrayOver t =>
    cases t with
    | object C => exact va_AO.moved hW.alike h1
    | _ => cases h2
  | _ => cases h2
theorem zi_nw_same {s U : State} (hv : s.vm = U.vm) (h : ∀ w ∈ zi_nw, va_Nw w s) : ∀ w ∈ zi_nw, va_Nw w U := by
  intro w hw
  have h1 := h w hw
  have h2 := zi_nw_is hw
  cases w with
  | fieldLinkNest a b c d e f => exact va_Nw.same rfl hv h1
  | methodLinkNest a b c d => exact va_Nw.same rfl hv h1
  | arrayOver t =>
    cases t with
    | object C => exact va_AO.moved (by rw [hv]; exact Vm.Alike.refl U.vm) h1
    | _ => cases h2
  | _ => cases h2
theorem zi_blind {D : va_G} {cy : Nat → ClassId} {ad : Nat → Nat} {as : List Value} {S : zi_S} {sz : Nat} : FrameBlind (zi_Pre D cy ad as S sz) := by
  intro a U g mk q
  obtain ⟨q0, q1, qP, qK, qD, qN, qS⟩ := q
  exact ⟨q0, q1, qP, va_K.moved (u := U) (U := U.calling g mk a) (Vm.Alike.refl U.vm) qK, qD, zi_nw_same (s := U) (U := U.calling g mk a) rfl qN, zi_SF.same (u := U) (U := U.calling g mk a) qS rfl⟩
theorem zi_tb_good {w : Cond} (h : w ∈ zi_tb) : goodWord w = true := (List.mem_filter.mp h).2
theorem zi_goodIn {y : MethodName} {b : ByteArray} {mL : Nat} {ret : Option FieldType} (h : Cond.code y b mL ret ∈ zi_tb) : GoodIn zi_tb (Cond.code y b mL ret :: zi_tb) := by
  intro w hw
  rcases List.mem_cons.mp hw with rfl | hw
  · exact ⟨h, good_of_word (zi_tb_good h)⟩
  · exact ⟨hw, good_of_word (zi_tb_good hw)⟩
section ZZ
variable {p : Program} {l : Launch} {e : Env} {R : Room} {s : State} {m : MethodId} {args : Array Value} {below : List Frame} {meth : Method} {c : Code} {Q : State → Prop} {D : va_G} {cy : Nat → ClassId} {A : Nat → Prop} {cc : ByteArray} {nL n0 k0 s0 o rt : Nat} {nm : String} {ad0 : Nat → Nat} {pc pc' : Nat} {L L' : zi_L} {st st' : List Value} {S S' : zi_S} {M : Nat → Option zi_MI}
/-- behind a call -/
theorem zi_cont {H H0 : Heap} {locs : List Loc} {cells slots mc ms : Nat} {ls : Array Slot} {st0 rest : List Value} {ad : Nat → Nat} {v : Option Value} {a : Array Value} {free : Addr → Prop} (hr : va_Run p l e R s m args below meth c H locs cells slots mc ms (F0 m pc ls st0) rest (zi_Post D cy ad S v S' H.size a) free) (hS : va_S A H0 H locs) (hA : ∀ q, q < H.size → va_A (zi_w cy ad S.1 S.2.1) H.size q → A q) (hf : ∀ q, free q → A q)
    (kk : ∀ (ad' : Nat → Nat) (H1 : Heap) (locs1 : List Loc), zi_ag S.2.1 ad ad' → zi_wfS S' → va_P D vwCl (zi_w cy ad' S'.1 S'.2.1) H1 → va_D (va_A (zi_w cy ad S.1 S.2.1) H.size) (zi_w cy ad' S'.1 S'.2.1) → va_S A H0 H1 locs1 → W p l e R s m args below meth c H1 locs1 (cells + mc) (slots + ms) Q (F0 m (pc + 3) ls (v.toList ++ rest))) : W p l e R s m args below meth c H locs cells slots Q (F0 m pc ls st0) := by
  intro T hT X
  obtain ⟨v', st₀, t, T', L, h0, X', hL, e1, e2, ⟨⟨⟨ad', hag, hv, hP, hD⟩, hwf⟩, hz, hk⟩, st⟩ := hr T hT X
  cases hv
  rw [h0] at hz hk
  obtain ⟨t2, a1, b1⟩ := kk ad' T'.heap (locs ++ L) hag hwf (by rw [e1]; exact hP) hD
    ⟨Nat.le_trans hS.1 (by rw [e1]; exact hz), fun q h1 h2 => by rw [e1, hk q (Nat.lt_of_lt_of_le h1 hS.1) (fun z => h2 (hA q (Nat.lt_of_lt_of_le h1 hS.1) z))]; exact hS.2.1 q h1 h2, fun q hq => by
      rcases List.mem_append.mp hq with h | h
      · exact hS.2.2 q h
      · exact hf _ (hL q h)⟩ T' rfl X'
  exact ⟨t2, st t2 a1, b1⟩
theorem zi_pop_inv : ∀ {n : Nat} {st as bs r : List Value}, zi_pop n st bs = some (as, r) → ∃ xs, xs.length = n ∧ as = xs ++ bs ∧ st = xs.reverse ++ r
  | 0, st, as, bs, r, h => by
    cases h
    exact ⟨[], rfl, rfl, rfl⟩
  | n + 1, [], as, bs, r, h => by cases h
  | n + 1, v :: st, as, bs, r, h => by
    obtain ⟨xs, h1, h2, h3⟩ := zi_pop_inv (n := n) (st := st) (bs := v :: bs) h
    exact ⟨xs ++ [v], by simp [h1], by simp [h2], by simp [h3]⟩
theorem zi_inv_inv {x y x' : Nat} {as r : List Value} (h : zi_inv st S x y = some (.inr (.inr (x', as, r)))) : ∃ (a : Nat) (bs : List Value) (ci : Nat) (fs : List Value), x' = x ∧ as = .ref a :: bs ∧ bs.length = y ∧ st = bs.reverse ++ .ref a :: r ∧ S.1 a = .inr (ci, fs) ∧ ci = x / 200 ∧ (a < S.2.1 ∨ 1000000 ≤ a) ∧ zi_sm r = true := by
  unfold zi_inv at h
  split at h
  · rename_i a bs r' hp
    obtain ⟨xs, h1, h2, h3⟩ := zi_pop_inv hp
    rw [List.append_nil] at h2
    split at h
    · rename_i ci fs hc
      obtain ⟨h4, h5⟩ := zi_cond_inv h
      simp only [Bool.and_eq_true, Bool.or_eq_true] at h4
      cases h5
      refine ⟨a, bs, ci, fs, rfl, rfl, ?_, ?_, hc, zi_beq h4.1, zi_or (by rw [Bool.or_eq_true]; exact h4.2.1), h4.2.2⟩
      · rw [← h2] at h1
        simpa using h1
      · rw [h3, ← h2]
        simp
    · cases h
  · cases h
theorem zi_invs_inv {x y x' : Nat} {as r : List Value} (h : zi_invs st x y = some (.inr (.inr (x', as, r)))) : x' = x ∧ as.length = y ∧ st = as.reverse ++ r ∧ zi_sm r = true := by
  unfold zi_invs at h
  split at h
  · rename_i bs r' hp
    obtain ⟨xs, h1, h2, h3⟩ := zi_pop_inv hp
    rw [List.append_nil] at h2
    subst h2
    obtain ⟨h4, h5⟩ := zi_cond_inv h
    cases h5
    exact ⟨rfl, h1, h3, h4⟩
  · cases h
/-- a call that returns, seen by the caller -/
theorem zi_after {d mc ms : Nat} {ad : Nat → Nat} {ls : Array Slot} {H : Heap} {locs : List Loc} {as r : List Value} {v : Option Value} {DM : zi_MI} (hmc : mc = S'.2.2.1 - S.2.2.1) (hms : ms = S'.2.2.2 - S.2.2.2) (hA : ∀ q, s.heap.size ≤ q → A q) (hle : zi_le S S') (hnum : zi_num v) (hn0 : n0 ≤ S.2.1) (hk : k0 ≤ S.2.2.1) (hs : s0 ≤ S.2.2.2) (hag : zi_ag n0 ad0 ad) (hH : zi_Hp D cy A ad s.heap H locs S) (hL : zi_Lv ad ls nL S.2.1 L) (hst : ∀ w ∈ r, zi_ok S.2.1 w) (a : Array Value)
    (hr : va_Run p l e R s m args below meth c H locs (S.2.2.1 - k0) (S.2.2.2 - s0) mc ms (F0 m pc ls (st.map (zi_v ad))) (r.map (zi_v ad)) (zi_Post D cy ad S v S' H.size a) (va_A (zi_w cy ad S.1 S.2.1) H.size))
    (kk : zi_Go p l e R s m args below meth c Q D cy A nL n0 ad0 k0 s0 (pc + 3) L (v.toList ++ r) S') : W p l e R s m args below meth c H locs (S.2.2.1 - k0) (S.2.2.2 - s0) Q (F0 m pc ls (st.map (zi_v ad))) := by
  have hin : ∀ q, va_A (zi_w cy ad S.1 S.2.1) H.size q → A q := by
    intro q hq
    rcases hq with ⟨k, ee, hq⟩ | hq
    · exact hH.2.1.2 k _ hq
    · exact hA q (Nat.le_trans hH.2.2.1.1 hq)
  refine zi_cont hr hH.2.2.1 (fun q _ h => hin q h) hin fun ad' H1 locs1 ha hwf hP hD hS => ?_
  have k := kk ad' ls H1 locs1 (fun j hj => (ha j (by omega)).trans (hag j hj)) ⟨hP, ⟨hD.1, fun j q hq => hin _ (hD.2 j q hq)⟩, hS, hwf.1, hwf.2.1, hwf.2.2⟩ (hL.ag ha hle.1) (fun w hw => by
    rcases List.mem_append.mp hw with h | h
    · exact zi_num_ok hnum _ w h
    · exact (hst w h).mono hle.1)
  rw [List.map_append, zi_num_v hnum, zi_map_ag ha hst] at k
  have e1 : S'.2.2.1 - k0 = S.2.2.1 - k0 + mc := by have := hle.2.1; omega
  have e2 : S'.2.2.2 - s0 = S.2.2.2 - s0 + ms := by have := hle.2.2; omega
  rw [e1, e2] at k
  exact k
end ZZ
end
section
/-! ===== what a step can be ===== -/
def zi_pl (S : zi_S) (r : Option zi_O) : Prop := ∀ o, r = some o → ∃ w, o = .inl w ∧ zi_le S w.2.2.2
theorem zi_pl_none {S : zi_S} : zi_pl S none := fun _ h => by cases h
theorem zi_pl_nx {S d : zi_S} {a : Nat} {b : zi_L} {c : List Value} (h : zi_le S d) : zi_pl S (zi_nx a b c d) := fun o ho => by
  cases ho
  exact ⟨_, rfl, h⟩
theorem zi_pl_cond {S : zi_S} {b : Bool} {x : Option zi_O} (h : zi_pl S x) : zi_pl S (cond b x none) := by
  cases b
  · exact zi_pl_none
  · exact h
theorem zi_pl_bind {S : zi_S} {x : Option zi_L} {f : zi_L → Option zi_O} (h : ∀ L, zi_pl S (f L)) : zi_pl S (x.bind f) := by
  cases x
  · exact zi_pl_none
  · exact h _
theorem zi_pl_br {S : zi_S} {pc t : Nat} {L : zi_L} {r : List Value} {b : Prop} [Decidable b] : zi_pl S (zi_br pc t L r S b) := by
  unfold zi_br
  split <;> exact zi_pl_nx zi_le.rf
theorem zi_pl_put {S : zi_S} {h : Nat → zi_C} : zi_le S (h, S.2) := zi_le.rf
theorem zi_pl_alloc {S : zi_S} {n pc w : Nat} {L : zi_L} {r : List Value} {c : zi_C} : zi_pl S (zi_alloc n pc L r S c w) := by
  unfold zi_alloc
  exact zi_pl_cond (zi_pl_nx ⟨Nat.le_succ _, Nat.le_succ _, Nat.le_add_right _ _⟩)
theorem zi_pl_i1 {S : zi_S} {pc : Nat} {L : zi_L} {st : List Value} {f1 : Int32 → Int32} : zi_pl S (zi_i1 pc L st S f1) := by
  unfold zi_i1
  (repeat' split) <;> first | exact zi_pl_none | exact zi_pl_nx zi_le.rf | exact zi_pl_br | exact zi_pl_cond (zi_pl_nx zi_le.rf) | exact zi_pl_cond (zi_pl_nx zi_pl_put) | exact zi_pl_cond (zi_pl_bind fun _ => zi_pl_nx zi_le.rf) | exact zi_pl_bind (fun _ => zi_pl_nx zi_le.rf) | exact zi_pl_cond zi_pl_alloc
theorem zi_pl_i2 {S : zi_S} {pc : Nat} {L : zi_L} {st : List Value} {f2 : Int32 → Int32 → Int32} : zi_pl S (zi_i2 pc L st S f2) := by
  unfold zi_i2
  (repeat' split) <;> first | exact zi_pl_none | exact zi_pl_nx zi_le.rf | exact zi_pl_br | exact zi_pl_cond (zi_pl_nx zi_le.rf) | exact zi_pl_cond (zi_pl_nx zi_pl_put) | exact zi_pl_cond (zi_pl_bind fun _ => zi_pl_nx zi_le.rf) | exact zi_pl_bind (fun _ => zi_pl_nx zi_le.rf) | exact zi_pl_cond zi_pl_alloc
theorem zi_pl_l2 {S : zi_S} {pc : Nat} {L : zi_L} {st : List Value} {f3 : Int64 → Int64 → Int64} : zi_pl S (zi_l2 pc L st S f3) := by
  unfold zi_l2
  (repeat' split) <;> first | exact zi_pl_none | exact zi_pl_nx zi_le.rf | exact zi_pl_br | exact zi_pl_cond (zi_pl_nx zi_le.rf) | exact zi_pl_cond (zi_pl_nx zi_pl_put) | exact zi_pl_cond (zi_pl_bind fun _ => zi_pl_nx zi_le.rf) | exact zi_pl_bind (fun _ => zi_pl_nx zi_le.rf) | exact zi_pl_cond zi_pl_alloc
theorem zi_pl_lod {S : zi_S} {n : Nat} {pc : Nat} {L : zi_L} {st : List Value} {i : Nat} {kv : Value → Bool} : zi_pl S (zi_lod n pc L st S i kv) := by
  unfold zi_lod
  (repeat' split) <;> first | exact zi_pl_none | exact zi_pl_nx zi_le.rf | exact zi_pl_br | exact zi_pl_cond (zi_pl_nx zi_le.rf) | exact zi_pl_cond (zi_pl_nx zi_pl_put) | exact zi_pl_cond (zi_pl_bind fun _ => zi_pl_nx zi_le.rf) | exact zi_pl_bind (fun _ => zi_pl_nx zi_le.rf) | exact zi_pl_cond zi_pl_alloc
theorem zi_pl_sto {S : zi_S} {n : Nat} {pc : Nat} {L : zi_L} {st : List Value} {i : Nat} {kv : Value → Bool} : zi_pl S (zi_sto n pc L st S i kv) := by
  unfold zi_sto
  (repeat' split) <;> first | exact zi_pl_none | exact zi_pl_nx zi_le.rf | exact zi_pl_br | exact zi_pl_cond (zi_pl_nx zi_le.rf) | exact zi_pl_cond (zi_pl_nx zi_pl_put) | exact zi_pl_cond (zi_pl_bind fun _ => zi_pl_nx zi_le.rf) | exact zi_pl_bind (fun _ => zi_pl_nx zi_le.rf) | exact zi_pl_cond zi_pl_alloc
theorem zi_pl_sto2 {S : zi_S} {n : Nat} {pc : Nat} {L : zi_L} {st : List Value} {i : Nat} : zi_pl S (zi_sto2 n pc L st S i) := by
  unfold zi_sto2
  (repeat' split) <;> first | exact zi_pl_none | exact zi_pl_nx zi_le.rf | exact zi_pl_br | exact zi_pl_cond (zi_pl_nx zi_le.rf) | exact zi_pl_cond (zi_pl_nx zi_pl_put) | exact zi_pl_cond (zi_pl_bind fun _ => zi_pl_nx zi_le.rf) | exact zi_pl_bind (fun _ => zi_pl_nx zi_le.rf) | exact zi_pl_cond zi_pl_alloc
theorem zi_pl_if1 {S : zi_S} {pc : Nat} {t : Nat} {L : zi_L} {st : List Value} {q : ClassFile.Cond} : zi_pl S (zi_if1 pc t L st S q) := by
  unfold zi_if1
  (repeat' split) <;> first | exact zi_pl_none | exact zi_pl_nx zi_le.rf | exact zi_pl_br | exact zi_pl_cond (zi_pl_nx zi_le.rf) | exact zi_pl_cond (zi_pl_nx zi_pl_put) | exact zi_pl_cond (zi_pl_bind fun _ => zi_pl_nx zi_le.rf) | exact zi_pl_bind (fun _ => zi_pl_nx zi_le.rf) | exact zi_pl_cond zi_pl_alloc
theorem zi_pl_if2 {S : zi_S} {pc : Nat} {t : Nat} {L : zi_L} {st : List Value} {q : ClassFile.Cond} : zi_pl S (zi_if2 pc t L st S q) := by
  unfold zi_if2
  (repeat' split) <;> first | exact zi_pl_none | exact zi_pl_nx zi_le.rf | exact zi_pl_br | exact zi_pl_cond (zi_pl_nx zi_le.rf) | exact zi_pl_cond (zi_pl_nx zi_pl_put) | exact zi_pl_cond (zi_pl_bind fun _ => zi_pl_nx zi_le.rf) | exact zi_pl_bind (fun _ => zi_pl_nx zi_le.rf) | exact zi_pl_cond zi_pl_alloc
theorem zi_pl_putf {S : zi_S} {pc : Nat} {L : zi_L} {st : List Value} {x : Nat} {y : Nat} : zi_pl S (zi_putf pc L st S x y) := by
  unfold zi_putf
  (repeat' split) <;> first | exact zi_pl_none | exact zi_pl_nx zi_le.rf | exact zi_pl_br | exact zi_pl_cond (zi_pl_nx zi_le.rf) | exact zi_pl_cond (zi_pl_nx zi_pl_put) | exact zi_pl_cond (zi_pl_bind fun _ => zi_pl_nx zi_le.rf) | exact zi_pl_bind (fun _ => zi_pl_nx zi_le.rf) | exact zi_pl_cond zi_pl_alloc
theorem zi_pl_ald {S : zi_S} {pc : Nat} {L : zi_L} {st : List Value} {t : Nat} : zi_pl S (zi_ald pc L st S t) := by
  unfold zi_ald
  (repeat' split) <;> first | exact zi_pl_none | exact zi_pl_nx zi_le.rf | exact zi_pl_br | exact zi_pl_cond (zi_pl_nx zi_le.rf) | exact zi_pl_cond (zi_pl_nx zi_pl_put) | exact zi_pl_cond (zi_pl_bind fun _ => zi_pl_nx zi_le.rf) | exact zi_pl_bind (fun _ => zi_pl_nx zi_le.rf) | exact zi_pl_cond zi_pl_alloc
theorem zi_pl_bald {S : zi_S} {pc : Nat} {L : zi_L} {st : List Value} : zi_pl S (zi_bald pc L st S) := by
  unfold zi_bald
  (repeat' split) <;> first | exact zi_pl_none | exact zi_pl_nx zi_le.rf | exact zi_pl_br | exact zi_pl_cond (zi_pl_nx zi_le.rf) | exact zi_pl_cond (zi_pl_nx zi_pl_put) | exact zi_pl_cond (zi_pl_bind fun _ => zi_pl_nx zi_le.rf) | exact zi_pl_bind (fun _ => zi_pl_nx zi_le.rf) | exact zi_pl_cond zi_pl_alloc
theorem zi_pl_lald {S : zi_S} {pc : Nat} {L : zi_L} {st : List Value} : zi_pl S (zi_lald pc L st S) := by
  unfold zi_lald
  (repeat' split) <;> first | exact zi_pl_none | exact zi_pl_nx zi_le.rf | exact zi_pl_br | exact zi_pl_cond (zi_pl_nx zi_le.rf) | exact zi_pl_cond (zi_pl_nx zi_pl_put) | exact zi_pl_cond (zi_pl_bind fun _ => zi_pl_nx zi_le.rf) | exact zi_pl_bind (fun _ => zi_pl_nx zi_le.rf) | exact zi_pl_cond zi_pl_alloc
theorem zi_pl_aald {S : zi_S} {pc : Nat} {L : zi_L} {st : List Value} : zi_pl S (zi_aald pc L st S) := by
  unfold zi_aald
  (repeat' split) <;> first | exact zi_pl_none | exact zi_pl_nx zi_le.rf | exact zi_pl_br | exact zi_pl_cond (zi_pl_nx zi_le.rf) | exact zi_pl_cond (zi_pl_nx zi_pl_put) | exact zi_pl_cond (zi_pl_bind fun _ => zi_pl_nx zi_le.rf) | exact zi_pl_bind (fun _ => zi_pl_nx zi_le.rf) | exact zi_pl_cond zi_pl_alloc
theorem zi_pl_ast {S : zi_S} {pc : Nat} {L : zi_L} {st : List Value} {t : Nat} {f1 : Int32 → Int32} : zi_pl S (zi_ast pc L st S t f1) := by
  unfold zi_ast
  (repeat' split) <;> first | exact zi_pl_none | exact zi_pl_nx zi_le.rf | exact zi_pl_br | exact zi_pl_cond (zi_pl_nx zi_le.rf) | exact zi_pl_cond (zi_pl_nx zi_pl_put) | exact zi_pl_cond (zi_pl_bind fun _ => zi_pl_nx zi_le.rf) | exact zi_pl_bind (fun _ => zi_pl_nx zi_le.rf) | exact zi_pl_cond zi_pl_alloc
theorem zi_pl_last {S : zi_S} {pc : Nat} {L : zi_L} {st : List Value} : zi_pl S (zi_last pc L st S) := by
  unfold zi_last
  (repeat' split) <;> first | exact zi_pl_none | exact zi_pl_nx zi_le.rf | exact zi_pl_br | exact zi_pl_cond (zi_pl_nx zi_le.rf) | exact zi_pl_cond (zi_pl_nx zi_pl_put) | exact zi_pl_cond (zi_pl_bind fun _ => zi_pl_nx zi_le.rf) | exact zi_pl_bind (fun _ => zi_pl_nx zi_le.rf) | exact zi_pl_cond zi_pl_alloc
theorem zi_pl_aast {S : zi_S} {pc : Nat} {L : zi_L} {st : List Value} : zi_pl S (zi_aast pc L st S) := by
  unfold zi_aast
  (repeat' split) <;> first | exact zi_pl_none | exact zi_pl_nx zi_le.rf | exact zi_pl_br | exact zi_pl_cond (zi_pl_nx zi_le.rf) | exact zi_pl_cond (zi_pl_nx zi_pl_put) | exact zi_pl_cond (zi_pl_bind fun _ => zi_pl_nx zi_le.rf) | exact zi_pl_bind (fun _ => zi_pl_nx zi_le.rf) | exact zi_pl_cond zi_pl_alloc
theorem zi_pl_alen {S : zi_S} {pc : Nat} {L : zi_L} {st : List Value} : zi_pl S (zi_alen pc L st S) := by
  unfold zi_alen
  (repeat' split) <;> first | exact zi_pl_none | exact zi_pl_nx zi_le.rf | exact zi_pl_br | exact zi_pl_cond (zi_pl_nx zi_le.rf) | exact zi_pl_cond (zi_pl_nx zi_pl_put) | exact zi_pl_cond (zi_pl_bind fun _ => zi_pl_nx zi_le.rf) | exact zi_pl_bind (fun _ => zi_pl_nx zi_le.rf) | exact zi_pl_cond zi_pl_alloc
theorem zi_pl_cpy {S : zi_S} {pc : Nat} {L : zi_L} {st : List Value} : zi_pl S (zi_cpy pc L st S) := by
  unfold zi_cpy
  (repeat' split) <;> first | exact zi_pl_none | exact zi_pl_nx zi_le.rf | exact zi_pl_br | exact zi_pl_cond (zi_pl_nx zi_le.rf) | exact zi_pl_cond (zi_pl_nx zi_pl_put) | exact zi_pl_cond (zi_pl_bind fun _ => zi_pl_nx zi_le.rf) | exact zi_pl_bind (fun _ => zi_pl_nx zi_le.rf) | exact zi_pl_cond zi_pl_alloc
theorem zi_pl_mka {S : zi_S} {n : Nat} {pc : Nat} {L : zi_L} {st : List Value} {t : Nat} : zi_pl S (zi_mka n pc L st S t) := by
  unfold zi_mka
  (repeat' split) <;> first | exact zi_pl_none | exact zi_pl_nx zi_le.rf | exact zi_pl_br | exact zi_pl_cond (zi_pl_nx zi_le.rf) | exact zi_pl_cond (zi_pl_nx zi_pl_put) | exact zi_pl_cond (zi_pl_bind fun _ => zi_pl_nx zi_le.rf) | exact zi_pl_bind (fun _ => zi_pl_nx zi_le.rf) | exact zi_pl_cond zi_pl_alloc
theorem zi_pl_m2 {S : zi_S} {pc : Nat} {L : zi_L} {st : List Value} {f2 : Int32 → Int32 → Int32} : zi_pl S (zi_m2 pc L st S f2) := by
  unfold zi_m2
  (repeat' split) <;> first | exact zi_pl_none | exact zi_pl_nx zi_le.rf | exact zi_pl_br | exact zi_pl_cond (zi_pl_nx zi_le.rf) | exact zi_pl_cond (zi_pl_nx zi_pl_put) | exact zi_pl_cond (zi_pl_bind fun _ => zi_pl_nx zi_le.rf) | exact zi_pl_bind (fun _ => zi_pl_nx zi_le.rf) | exact zi_pl_cond zi_pl_alloc
theorem zi_pl_getf {S : zi_S} {pc : Nat} {L : zi_L} {st : List Value} {x : Nat} {y : Nat} : zi_pl S (zi_getf pc L st S x y) := by
  unfold zi_getf
  split
  · split
    · refine zi_pl_cond ?_
      split
      · exact zi_pl_nx zi_le.rf
      · exact zi_pl_none
    · exact zi_pl_none
  · exact zi_pl_none
theorem zi_ex_kind {rt pc : Nat} {q : zi_I} {L : zi_L} {st : List Value} {S : zi_S} : zi_pl S (zi_ex rt q pc L st S) ∨ (∃ ix, q.1 = .invokevirtual ix ∧ zi_ex rt q pc L st S = zi_inv st S q.2.2.1 q.2.2.2.1) ∨ (∃ ix, q.1 = .invokespecial ix ∧ q.2.2.1 ≠ 9000 ∧ zi_ex rt q pc L st S = zi_inv st S q.2.2.1 q.2.2.2.1) ∨ (∃ ix, q.1 = .invokestatic ix ∧ q.2.2.1 ≠ 9001 ∧ q.2.2.1 ≠ 9002 ∧ q.2.2.1 ≠ 9003 ∧ zi_ex rt q pc L st S = zi_invs st q.2.2.1 q.2.2.2.1) ∨ ((q.1 = .ireturn ∨ q.1 = .lreturn ∨ q.1 = .return_) ∧ ∀ o, zi_ex rt q pc L st S = some o → ∃ v, o = .inr (.inl v)) := by
  obtain ⟨i, len, x, y, z⟩ := q
  cases i with
  | iconst => 
    left
    exact zi_pl_nx zi_le.rf
  | bipush => 
    left
    exact zi_pl_nx zi_le.rf
  | sipush => 
    left
    exact zi_pl_nx zi_le.rf
  | lconst => 
    left
    exact zi_pl_nx zi_le.rf
  | ldc => 
    left
    exact zi_pl_nx zi_le.rf
  | ldc_w => 
    left
    exact zi_pl_nx zi_le.rf
  | ldc2_w => 
    left
    exact zi_pl_nx zi_le.rf
  | getstatic => 
    left
    exact zi_pl_nx zi_le.rf
  | iload_n => 
    left
    exact zi_pl_lod
  | iload => 
    left
    exact zi_pl_lod
  | lload_n => 
    left
    exact zi_pl_lod
  | lload => 
    left
    exact zi_pl_lod
  | aload_n => 
    left
    exact zi_pl_lod
  | aload => 
    left
    exact zi_pl_lod
  | istore_n => 
    left
    exact zi_pl_sto
  | istore => 
    left
    exact zi_pl_sto
  | astore_n => 
    left
    exact zi_pl_sto
  | astore => 
    left
    exact zi_pl_sto
  | lstore_n => 
    left
    exact zi_pl_sto2
  | lstore => 
    left
    exact zi_pl_sto2
  | iinc => 
    left
    simp only [zi_ex]
    (repeat' split) <;> first | exact zi_pl_none | exact zi_pl_nx zi_le.rf | exact zi_pl_cond (zi_pl_nx zi_le.rf) | exact zi_pl_bind (fun _ => zi_pl_nx zi_le.rf)
  | iadd => 
    left
    exact zi_pl_i2
  | isub => 
    left
    exact zi_pl_i2
  | imul => 
    left
    exact zi_pl_i2
  | iand => 
    left
    exact zi_pl_i2
  | ior => 
    left
    exact zi_pl_i2
  | ixor => 
    left
    exact zi_pl_i2
  | ishl => 
    left
    exact zi_pl_i2
  | ishr => 
    left
    exact zi_pl_i2
  | iushr => 
    left
    exact zi_pl_i2
  | idiv => 
    left
    simp only [zi_ex]
    (repeat' split) <;> first | exact zi_pl_none | exact zi_pl_nx zi_le.rf | exact zi_pl_cond (zi_pl_nx zi_le.rf) | exact zi_pl_bind (fun _ => zi_pl_nx zi_le.rf)
  | irem => 
    left
    simp only [zi_ex]
    (repeat' split) <;> first | exact zi_pl_none | exact zi_pl_nx zi_le.rf | exact zi_pl_cond (zi_pl_nx zi_le.rf) | exact zi_pl_bind (fun _ => zi_pl_nx zi_le.rf)
  | ineg => 
    left
    exact zi_pl_i1
  | i2b => 
    left
    exact zi_pl_i1
  | i2s => 
    left
    exact zi_pl_i1
  | i2c => 
    left
    exact zi_pl_i1
  | i2l => 
    left
    simp only [zi_ex]
    (repeat' split) <;> first | exact zi_pl_none | exact zi_pl_nx zi_le.rf | exact zi_pl_cond (zi_pl_nx zi_le.rf) | exact zi_pl_bind (fun _ => zi_pl_nx zi_le.rf)
  | ladd => 
    left
    exact zi_pl_l2
  | lsub => 
    left
    exact zi_pl_l2
  | lmul => 
    left
    exact zi_pl_l2
  | ldiv => 
    left
    simp only [zi_ex]
    (repeat' split) <;> first | exact zi_pl_none | exact zi_pl_nx zi_le.rf | exact zi_pl_cond (zi_pl_nx zi_le.rf) | exact zi_pl_bind (fun _ => zi_pl_nx zi_le.rf)
  | lrem => 
    left
    simp only [zi_ex]
    (repeat' split) <;> first | exact zi_pl_none | exact zi_pl_nx zi_le.rf | exact zi_pl_cond (zi_pl_nx zi_le.rf) | exact zi_pl_bind (fun _ => zi_pl_nx zi_le.rf)
  | lcmp => 
    left
    simp only [zi_ex]
    (repeat' split) <;> first | exact zi_pl_none | exact zi_pl_nx zi_le.rf | exact zi_pl_cond (zi_pl_nx zi_le.rf) | exact zi_pl_bind (fun _ => zi_pl_nx zi_le.rf)
  | dup => 
    left
    simp only [zi_ex]
    (repeat' split) <;> first | exact zi_pl_none | exact zi_pl_nx zi_le.rf | exact zi_pl_cond (zi_pl_nx zi_le.rf) | exact zi_pl_bind (fun _ => zi_pl_nx zi_le.rf)
  | dup2 => 
    left
    simp only [zi_ex]
    (repeat' split) <;> first | exact zi_pl_none | exact zi_pl_nx zi_le.rf | exact zi_pl_cond (zi_pl_nx zi_le.rf) | exact zi_pl_bind (fun _ => zi_pl_nx zi_le.rf)
  | pop => 
    left
    simp only [zi_ex]
    (repeat' split) <;> first | exact zi_pl_none | exact zi_pl_nx zi_le.rf | exact zi_pl_cond (zi_pl_nx zi_le.rf) | exact zi_pl_bind (fun _ => zi_pl_nx zi_le.rf)
  | goto => 
    left
    exact zi_pl_nx zi_le.rf
  | ifCond => 
    left
    exact zi_pl_if1
  | if_icmp => 
    left
    exact zi_pl_if2
  | tableswitch => 
    left
    simp only [zi_ex]
    (repeat' split) <;> first | exact zi_pl_none | exact zi_pl_nx zi_le.rf | exact zi_pl_cond (zi_pl_nx zi_le.rf) | exact zi_pl_bind (fun _ => zi_pl_nx zi_le.rf)
  | lookupswitch => 
    left
    simp only [zi_ex]
    (repeat' split) <;> first | exact zi_pl_none | exact zi_pl_nx zi_le.rf | exact zi_pl_cond (zi_pl_nx zi_le.rf) | exact zi_pl_bind (fun _ => zi_pl_nx zi_le.rf)
  | getfield => 
    left
    exact zi_pl_getf
  | putfield => 
    left
    exact zi_pl_putf
  | iaload => 
    left
    exact zi_pl_ald
  | baload => 
    left
    exact zi_pl_bald
  | laload => 
    left
    exact zi_pl_lald
  | aaload => 
    left
    exact zi_pl_aald
  | iastore => 
    left
    exact zi_pl_ast
  | bastore => 
    left
    exact zi_pl_ast
  | lastore => 
    left
    exact zi_pl_last
  | aastore => 
    left
    exact zi_pl_aast
  | arraylength => 
    left
    exact zi_pl_alen
  | anewarray => 
    left
    exact zi_pl_mka
  | new => 
    left
    exact zi_pl_cond zi_pl_alloc
  | newarray t =>
    left
    cases t <;> first | exact zi_pl_mka | exact zi_pl_none
  | invokevirtual ix => exact Or.inr (Or.inl ⟨ix, rfl, rfl⟩)
  | invokespecial ix =>
    cases hb9 : Nat.beq x 9000 with
    | true =>
      left
      simp only [zi_ex, hb9, cond_true]
      split
      · exact zi_pl_cond (zi_pl_nx zi_le.rf)
      · exact zi_pl_none
    | false => exact Or.inr (Or.inr (Or.inl ⟨ix, rfl, (fun h => by rw [show x = 9000 from h] at hb9; exact absurd hb9 (by decide)), by simp only [zi_ex, hb9, cond_false]⟩))
  | invokestatic ix =>
    by_cases h1 : x = 9001
    · subst h1
      exact Or.inl zi_pl_m2
    · by_cases h2 : x = 9002
      · subst h2
        exact Or.inl zi_pl_m2
      · by_cases h3 : x = 9003
        · subst h3
          exact Or.inl zi_pl_cpy
        · refine Or.inr (Or.inr (Or.inr (Or.inl ⟨ix, rfl, h1, h2, h3, ?_⟩)))
          simp only [zi_ex]
  | ireturn =>
    refine Or.inr (Or.inr (Or.inr (Or.inr ⟨Or.inl rfl, fun o h => ?_⟩)))
    simp only [zi_ex] at h
    (repeat' split at h) <;> first | (cases h; done) | (cases h; exact ⟨_, rfl⟩)
  | lreturn =>
    refine Or.inr (Or.inr (Or.inr (Or.inr ⟨Or.inr (Or.inl rfl), fun o h => ?_⟩)))
    simp only [zi_ex] at h
    (repeat' split at h) <;> first | (cases h; done) | (cases h; exact ⟨_, rfl⟩)
  | return_ =>
    refine Or.inr (Or.inr (Or.inr (Or.inr ⟨Or.inr (Or.inr rfl), fun o h => ?_⟩)))
    simp only [zi_ex] at h
    (repeat' split at h) <;> first | (cases h; done) | (cases h; exact ⟨_, rfl⟩)
  | _ => exact Or.inl zi_pl_none
end
section
/-! ===== calls and returns are the machine's ===== -/
section ZAA
variable {p : Program} {l : Launch} {e : Env} {R : Room} {s : State} {m : MethodId} {args : Array Value} {below : List Frame} {meth : Method} {c : Code} {Q : State → Prop} {D : va_G} {cy : Nat → ClassId} {A : Nat → Prop} {cc : ByteArray} {nL n0 k0 s0 o rt d : Nat} {nm : String} {ad0 : Nat → Nat} {pc pc' : Nat} {L L' : zi_L} {st st' : List Value} {S S' : zi_S} {M : Nat → Option zi_MI} {v : Option Value}
theorem zi_preS {ad : Nat → Nat} {H : Heap} {locs : List Loc} {as : List Value} (hA : ∀ q, s.heap.size ≤ q → A q) (hK : va_K D vwCl (zi_tys cy) s) (hN : ∀ w ∈ zi_nw, va_Nw w s) (hSF : zi_SF ad A s s.heap) (hH : zi_Hp D cy A ad s.heap H locs S) : PreS s H (zi_Pre D cy ad as S H.size) (as.map (zi_v ad)) :=
  ⟨zi_blind, fun U hU hW => ⟨rfl, by rw [hU], by rw [hU]; exact hH.1, va_K.moved hW.alike hK, hH.2.1.weaken (fun _ _ _ _ => trivial), zi_nw_warm hW hN, by
    rw [hU]
    refine hSF.sub hH.2.2.1.2.1 (fun q hq => ?_) hW
    rcases hq with ⟨k, ee, hq⟩ | hq
    · exact hH.2.1.2 k _ hq
    · exact hA q (Nat.le_trans hH.2.2.1.1 hq)⟩⟩
theorem zi_c_V {ix x y x' : Nat} {as r : List Value} (X : zi_X p s m args meth c R D cy A cc nL o nm rt ad0) (hRf : d + 1 ≤ R.frames) (hRl : 64 * (d + 1) ≤ R.locals) (hd : decode cc pc = .ok (.invokevirtual ix, 3)) (hg : zi_gV M o ix x y) (hex : zi_inv st S x y = some (.inr (.inr (x', as, r)))) (hM : zi_Met l M d x' as S v S') (hn0 : n0 ≤ S.2.1) (hk : k0 ≤ S.2.2.1) (hs : s0 ≤ S.2.2.2) (hRc : S'.2.2.1 - k0 ≤ R.cells) (hRs : S'.2.2.2 - s0 ≤ R.slots) (kk : zi_Go p l e R s m args below meth c Q D cy A nL n0 ad0 k0 s0 (pc + 3) L (v.toList ++ r) S') : zi_Go p l e R s m args below meth c Q D cy A nL n0 ad0 k0 s0 pc L st S := by
  obtain ⟨a, bs, ci, fs, rfl, rfl, hy, rfl, hc, rfl, ha, hsm⟩ := zi_inv_inv hex
  obtain ⟨hx, hb, hml, hown, hts, hN, hK, hA, hcls, hnm, hret, hlk, hRf0, hRl0, hSF⟩ := X
  obtain ⟨⟨DM, hDM, hny, hcl, hini, hpl, hcode, hmL, hlink⟩, hsel⟩ := hg
  obtain ⟨hinst, hsel, hq⟩ := hsel DM hDM
  obtain ⟨hle, hnum, hM⟩ := hM
  intro ad ls H locs hag hH hL hst
  have hokS : zi_wfS S := ⟨hH.2.2.2.1, hH.2.2.2.2.1, hH.2.2.2.2.2⟩
  have hst1 : ∀ w ∈ (Value.ref a :: bs), zi_ok S.2.1 w := fun w hw => hst w (by
    rcases List.mem_cons.mp hw with rfl | hw
    · simp
    · simp [hw])
  have hst2 : ∀ w ∈ r, zi_ok S.2.1 w := fun w hw => hst w (by simp [hw])
  have hMM := hM DM D cy ad H.size hDM hokS hst1
  have hrecv : ∃ cell : Cell, H[ad a]? = some cell ∧ cell.vm.isStatics = false ∧ s.vm.findClass (zi_cn (x' / 200)) = some cell.cls := by
    by_cases ha1 : 1000000 ≤ a
    · rw [hH.2.2.2.2.2 a ha1] at hc
      obtain ⟨j, hj, rfl, hx15, -⟩ := zi_ro_obj ha1 hc
      have h15 := vk_recv (hSF.ag hag).1 hj hH.2.2.1
      rw [hx15]
      exact h15
    · have ha : a < S.2.1 := by omega
      have he : (zi_w cy ad S.1 S.2.1)[a]? = some (ad a, .inr (x' / 200, fs.map (zi_v ad))) := by rw [zi_w_get ha, hc]; rfl
      rcases hq with ⟨q, hq, hq1⟩ | hx15
      · have hrecv := va_recv hK hH.1 hq he
        rw [hq1] at hrecv
        exact hrecv
      · obtain ⟨q, hq, -⟩ := hH.1 a _ he
        rw [hx15] at hq
        simp [vwCl] at hq
  have hpS := zi_preS (A := A) (as := .ref a :: bs) hA hK hN (hSF.ag hag) hH
  have hle1 := hle.2.1
  have hle2 := hle.2.2
  have hrm : (zi_R d (S'.2.2.1 - S.2.2.1) (S'.2.2.2 - S.2.2.2)).frames + 1 ≤ R.frames ∧ 8 + (DM.2.2.1 + 11) + (zi_R d (S'.2.2.1 - S.2.2.1) (S'.2.2.2 - S.2.2.2)).locals ≤ R.locals := ⟨hRf, by show 8 + (DM.2.2.1 + 11) + 64 * d ≤ R.locals; omega⟩
  have hsp : (bs.reverse ++ Value.ref a :: r).map (zi_v ad) = (bs.map (zi_v ad)).reverse ++ Value.ref (ad a) :: r.map (zi_v ad) := by simp [zi_v]
  refine zi_after (d := d) (DM := DM) (as := bs) rfl rfl hA hle hnum hn0 hk hs hag hH hL hst2 ((Value.ref a :: bs).map (zi_v ad)).toArray ?_ kk
  rcases hlink with hlink | ⟨host, hlink⟩
  · exact va_runV (As := bs.map (zi_v ad)) (rest := r.map (zi_v ad)) (Ts := zi_tb) ⟨hx, hb, hml, hown, hts⟩ hMM ⟨callB_of y hts (zi_goodIn hcode) rfl rfl rfl (hts _ hini) (hts _ hlink) hpl hrm, hts _ hinst, hts _ hsel⟩ ⟨hpS.1, hrecv, hpS.2⟩ rfl (by rw [List.length_map]; exact hy) hL.1 hsp (lv_room (zi_sm_map hsm)) hd ⟨by omega, by omega⟩
  · exact va_runVN (As := bs.map (zi_v ad)) (rest := r.map (zi_v ad)) (Ts := zi_tb) ⟨hx, hb, hml, hown, hts⟩ hMM ⟨va_cnB y hts (zi_goodIn hcode) rfl rfl rfl (hN _ hlink) (hts _ hini) hpl hrm, hts _ hinst, hts _ hsel⟩ ⟨hpS.1, hrecv, hpS.2⟩ rfl (by rw [List.length_map]; exact hy) hL.1 hsp (lv_room (zi_sm_map hsm)) hd ⟨by omega, by omega⟩
theorem zi_c_I {ix x y x' : Nat} {as r : List Value} (X : zi_X p s m args meth c R D cy A cc nL o nm rt ad0) (hRf : d + 1 ≤ R.frames) (hRl : 64 * (d + 1) ≤ R.locals) (hd : decode cc pc = .ok (.invokespecial ix, 3)) (hg : zi_gI M o ix x y) (hex : zi_inv st S x y = some (.inr (.inr (x', as, r)))) (hM : zi_Met l M d x' as S v S') (hn0 : n0 ≤ S.2.1) (hk : k0 ≤ S.2.2.1) (hs : s0 ≤ S.2.2.2) (hRc : S'.2.2.1 - k0 ≤ R.cells) (hRs : S'.2.2.2 - s0 ≤ R.slots) (kk : zi_Go p l e R s m args below meth c Q D cy A nL n0 ad0 k0 s0 (pc + 3) L (v.toList ++ r) S') : zi_Go p l e R s m args below meth c Q D cy A nL n0 ad0 k0 s0 pc L st S := by
  obtain ⟨a, bs, ci, fs, rfl, rfl, hy, rfl, hc, rfl, ha, hsm⟩ := zi_inv_inv hex
  obtain ⟨hx, hb, hml, hown, hts, hN, hK, hA, hcls, hnm, hret, hlk, hRf0, hRl0, hSF⟩ := X
  obtain ⟨⟨DM, hDM, hny, hcl, hini, hpl, hcode, hmL, hlink⟩, hsel⟩ := hg
  obtain ⟨hinst, hin, hr0⟩ := hsel DM hDM
  obtain ⟨hle, hnum, hM⟩ := hM
  intro ad ls H locs hag hH hL hst
  have hokS : zi_wfS S := ⟨hH.2.2.2.1, hH.2.2.2.2.1, hH.2.2.2.2.2⟩
  have hst1 : ∀ w ∈ (Value.ref a :: bs), zi_ok S.2.1 w := fun w hw => hst w (by
    rcases List.mem_cons.mp hw with rfl | hw
    · simp
    · simp [hw])
  have hst2 : ∀ w ∈ r, zi_ok S.2.1 w := fun w hw => hst w (by simp [hw])
  have hMM := hM DM D cy ad H.size hDM hokS hst1
  rw [hr0] at hMM hcode
  have hpS := zi_preS (A := A) (as := .ref a :: bs) hA hK hN (hSF.ag hag) hH
  have hle1 := hle.2.1
  have hle2 := hle.2.2
  have hrm : (zi_R d (S'.2.2.1 - S.2.2.1) (S'.2.2.2 - S.2.2.2)).frames + 1 ≤ R.frames ∧ 8 + (DM.2.2.1 + 11) + (zi_R d (S'.2.2.1 - S.2.2.1) (S'.2.2.2 - S.2.2.2)).locals ≤ R.locals := ⟨hRf, by show 8 + (DM.2.2.1 + 11) + 64 * d ≤ R.locals; omega⟩
  have hsp : (bs.reverse ++ Value.ref a :: r).map (zi_v ad) = (bs.map (zi_v ad)).reverse ++ Value.ref (ad a) :: r.map (zi_v ad) := by simp [zi_v]
  refine zi_after (d := d) (DM := DM) (as := bs) rfl rfl hA hle hnum hn0 hk hs hag hH hL hst2 ((Value.ref a :: bs).map (zi_v ad)).toArray ?_ kk
  rcases hlink with hlink | ⟨host, hlink⟩
  · exact va_runI (As := bs.map (zi_v ad)) (rest := r.map (zi_v ad)) (Ts := zi_tb) ⟨hx, hb, hml, hown, hts⟩ hMM ⟨callB_of y hts (zi_goodIn hcode) rfl rfl rfl (hts _ hini) (hts _ hlink) hpl hrm, hin, hts _ hinst⟩ hpS rfl (by rw [List.length_map]; exact hy) hL.1 hsp (lv_room (zi_sm_map hsm)) hd ⟨by omega, by omega⟩
  · exact va_runIN (As := bs.map (zi_v ad)) (rest := r.map (zi_v ad)) (Ts := zi_tb) ⟨hx, hb, hml, hown, hts⟩ hMM ⟨va_cnB y hts (zi_goodIn hcode) rfl rfl rfl (hN _ hlink) (hts _ hini) hpl hrm, hin, hts _ hinst⟩ hpS rfl (by rw [List.length_map]; exact hy) hL.1 hsp (lv_room (zi_sm_map hsm)) hd ⟨by omega, by omega⟩
theorem zi_c_S {ix x y x' : Nat} {as r : List Value} (X : zi_X p s m args meth c R D cy A cc nL o nm rt ad0) (hRf : d + 1 ≤ R.frames) (hRl : 64 * (d + 1) ≤ R.locals) (hd : decode cc pc = .ok (.invokestatic ix, 3)) (hg : zi_gS M o ix x y) (hex : zi_invs st x y = some (.inr (.inr (x', as, r)))) (hM : zi_Met l M d x' as S v S') (hn0 : n0 ≤ S.2.1) (hk : k0 ≤ S.2.2.1) (hs : s0 ≤ S.2.2.2) (hRc : S'.2.2.1 - k0 ≤ R.cells) (hRs : S'.2.2.2 - s0 ≤ R.slots) (kk : zi_Go p l e R s m args below meth c Q D cy A nL n0 ad0 k0 s0 (pc + 3) L (v.toList ++ r) S') : zi_Go p l e R s m args below meth c Q D cy A nL n0 ad0 k0 s0 pc L st S := by
  obtain ⟨rfl, hy, rfl, hsm⟩ := zi_invs_inv hex
  obtain ⟨hx, hb, hml, hown, hts, hN, hK, hA, hcls, hnm, hret, hlk, hRf0, hRl0, hSF⟩ := X
  obtain ⟨⟨DM, hDM, hny, hcl, hini, hpl, hcode, hmL, hlink⟩, hsel⟩ := hg
  have hstat := hsel DM hDM
  obtain ⟨hle, hnum, hM⟩ := hM
  intro ad ls H locs hag hH hL hst
  have hokS : zi_wfS S := ⟨hH.2.2.2.1, hH.2.2.2.2.1, hH.2.2.2.2.2⟩
  have hst1 : ∀ w ∈ as, zi_ok S.2.1 w := fun w hw => hst w (by simp [hw])
  have hst2 : ∀ w ∈ r, zi_ok S.2.1 w := fun w hw => hst w (by simp [hw])
  have hMM := hM DM D cy ad H.size hDM hokS hst1
  have hpS := zi_preS (A := A) (as := as) hA hK hN (hSF.ag hag) hH
  have hle1 := hle.2.1
  have hle2 := hle.2.2
  have hrm : (zi_R d (S'.2.2.1 - S.2.2.1) (S'.2.2.2 - S.2.2.2)).frames + 1 ≤ R.frames ∧ 8 + (DM.2.2.1 + 11) + (zi_R d (S'.2.2.1 - S.2.2.1) (S'.2.2.2 - S.2.2.2)).locals ≤ R.locals := ⟨hRf, by show 8 + (DM.2.2.1 + 11) + 64 * d ≤ R.locals; omega⟩
  have hsp : (as.reverse ++ r).map (zi_v ad) = (as.map (zi_v ad)).reverse ++ r.map (zi_v ad) := by simp
  refine zi_after (d := d) (DM := DM) (as := as) rfl rfl hA hle hnum hn0 hk hs hag hH hL hst2 (as.map (zi_v ad)).toArray ?_ kk
  rcases hlink with hlink | ⟨host, hlink⟩
  · exact va_runS (As := as.map (zi_v ad)) (rest := r.map (zi_v ad)) (Ts := zi_tb) ⟨hx, hb, hml, hown, hts⟩ hMM ⟨callB_of y hts (zi_goodIn hcode) rfl rfl rfl (hts _ hini) (hts _ hlink) hpl hrm, hts _ hstat⟩ hpS rfl (by rw [List.length_map]; exact hy) hL.1 hsp (lv_room (zi_sm_map hsm)) hd ⟨by omega, by omega⟩
  · exact va_runSN (As := as.map (zi_v ad)) (rest := r.map (zi_v ad)) (Ts := zi_tb) ⟨hx, hb, hml, hown, hts⟩ hMM ⟨va_cnB y hts (zi_goodIn hcode) rfl rfl rfl (hN _ hlink) (hts _ hini) hpl hrm, hts _ hstat, trivial⟩ hpS rfl (by rw [List.length_map]; exact hy) hL.1 hsp (lv_room (zi_sm_map hsm)) hd ⟨by omega, by omega⟩
end ZAA
theorem zi_inv_nr {st : List Value} {S : zi_S} {x y : Nat} {v : Option Value} : ¬ zi_inv st S x y = some (.inr (.inl v)) := by
  intro h
  unfold zi_inv at h
  split at h
  · split at h
    · obtain ⟨-, h⟩ := zi_cond_inv h
      cases h
    · cases h
  · cases h
theorem zi_invs_nr {st : List Value} {x y : Nat} {v : Option Value} : ¬ zi_invs st x y = some (.inr (.inl v)) := by
  intro h
  unfold zi_invs at h
  split at h
  · obtain ⟨-, h⟩ := zi_cond_inv h
    cases h
  · cases h
section ZAB
variable {p : Program} {l : Launch} {e : Env} {R : Room} {s : State} {m : MethodId} {args : Array Value} {below : List Frame} {meth : Method} {c : Code} {D : va_G} {cy : Nat → ClassId} {cc : ByteArray} {nL o rt d : Nat} {nm : String} {ad0 : Nat → Nat} {pc : Nat} {L : zi_L} {st : List Value} {S0 S : zi_S} {v : Option Value}
/-- a return -/
theorem zi_c_R {q : zi_I} (X : zi_X p s m args meth c R D cy (va_A (zi_w cy ad0 S0.1 S0.2.1) s.heap.size) cc nL o nm rt ad0) (hd : decode cc pc = .ok (q.1, q.2.1)) (hlen : q.2.1 = zi_ln q.1 q.2.1) (hex : zi_ex rt q pc L st S = some (.inr (.inl v))) :
    zi_num v ∧ zi_Go p l e R s m args below meth c (MQ below (zi_Post D cy ad0 S0 v S s.heap.size) args s (S.2.2.1 - S0.2.2.1) (S.2.2.2 - S0.2.2.2) (va_A (zi_w cy ad0 S0.1 S0.2.1) s.heap.size)) D cy (va_A (zi_w cy ad0 S0.1 S0.2.1) s.heap.size) nL S0.2.1 ad0 S0.2.2.1 S0.2.2.2 pc L st S := by
  obtain ⟨i, len, x, y, z⟩ := q
  obtain ⟨hx, hb, hml, hown, hts, hN, hK, hA, hcls, hnm, hret, hlk, hRf, hRl, hSF⟩ := id X
  dsimp only at hd hlen
  have fin : ∀ {ad : Nat → Nat} {H : Heap} {locs : List Loc}, zi_ag S0.2.1 ad0 ad → zi_Hp D cy (va_A (zi_w cy ad0 S0.1 S0.2.1) s.heap.size) ad s.heap H locs S → ∀ t : State, t.heap = H → s.WarmedH t.vm → zi_Post D cy ad0 S0 v S s.heap.size args s (.returned v) t := by
    intro ad H locs hag hH t ht _
    exact ⟨⟨⟨ad, hag, rfl, by rw [ht]; exact hH.1, hH.2.1⟩, hH.2.2.2⟩, hH.2.2.1.F ht⟩
  have key : i = .ireturn ∨ i = .lreturn ∨ i = .return_ := by
    rcases zi_ex_kind (rt := rt) (q := (i, len, x, y, z)) (pc := pc) (L := L) (st := st) (S := S) with h | ⟨ix, h1, h2⟩ | ⟨ix, h1, h0, h2⟩ | ⟨ix, h1, -, -, -, h2⟩ | ⟨h, -⟩
    · obtain ⟨w, hw, -⟩ := h _ hex
      cases hw
    · rw [h2] at hex
      exact absurd hex zi_inv_nr
    · rw [h2] at hex
      exact absurd hex zi_inv_nr
    · rw [h2] at hex
      exact absurd hex zi_invs_nr
    · exact h
  rcases key with rfl | rfl | rfl
  · have hlen : len = 1 := hlen
    subst hlen
    simp only [zi_ex] at hex
    split at hex
    · rename_i w
      cases hex
      refine ⟨trivial, ?_⟩
      intro ad ls H locs hag hH hL hst
      exact W.iret hx hb hret (fin hag hH) hH.2.2.1.2.2 hd hlk
    · rename_i w
      split at hex
      · rename_i hw
        cases hex
        refine ⟨trivial, ?_⟩
        intro ad ls H locs hag hH hL hst
        have hnar : narrow .boolean (.int w) = .int w := by
          rcases hw with rfl | rfl <;> rfl
        exact W.zret hx hb hret hnar (fin hag hH) hH.2.2.1.2.2 hd hlk
      · cases hex
    · rename_i w
      split at hex
      · rename_i hw
        cases hex
        refine ⟨trivial, ?_⟩
        intro ad ls H locs hag hH hL hst
        have hnar : narrow .char (.int w) = .int w := by
          have := pk_nc w
          rw [hw] at this
          exact this
        exact W.zret hx hb hret hnar (fin hag hH) hH.2.2.1.2.2 hd hlk
      · cases hex
    · rename_i w
      split at hex
      · rename_i hw
        cases hex
        refine ⟨trivial, ?_⟩
        intro ad ls H locs hag hH hL hst
        have hnar : narrow .byte (.int w) = .int w := by
          have := pk_nb w
          rw [hw] at this
          exact this
        exact W.zret hx hb hret hnar (fin hag hH) hH.2.2.1.2.2 hd hlk
      · cases hex
    · cases hex
  · have hlen : len = 1 := hlen
    subst hlen
    simp only [zi_ex] at hex
    split at hex
    · rename_i w
      cases hex
      refine ⟨trivial, ?_⟩
      intro ad ls H locs hag hH hL hst
      exact W.lret hx hb hret (fin hag hH) hH.2.2.1.2.2 hd hlk
    · cases hex
  · have hlen : len = 1 := hlen
    subst hlen
    simp only [zi_ex] at hex
    split at hex
    · cases hex
      refine ⟨trivial, ?_⟩
      intro ad ls H locs hag hH hL hst
      exact W.vret hx hb hret (fin hag hH) hH.2.2.1.2.2 hd hlk
    · cases hex
end ZAB
end
section
/-! ===== a run of the abstract machine is a run of the machine ===== -/
/-- the program's tables are right -/
def zi_Prog (P : Nat → Nat → Option zi_I) (M : Nat → Option zi_MI) : Prop := ∀ (x : Nat) (DM : zi_MI), M x = some DM → plainName DM.1.cls = true ∧ DM.1.cls = zi_cn (x / 200) ∧ ∀ (pc : Nat) (q : zi_I), P x pc = some q → decode DM.2.1 pc = .ok (q.1, q.2.1) ∧ q.2.1 = zi_ln q.1 q.2.1 ∧ zi_good M DM.1.name (x / 200) pc q
theorem zi_num_ret {rt pc : Nat} {q : zi_I} {L : zi_L} {st : List Value} {S : zi_S} {v : Option Value} (h : zi_ex rt q pc L st S = some (.inr (.inl v))) : zi_num v := by
  obtain ⟨i, len, x, y, z⟩ := q
  have key : i = .ireturn ∨ i = .lreturn ∨ i = .return_ := by
    rcases zi_ex_kind (rt := rt) (q := (i, len, x, y, z)) (pc := pc) (L := L) (st := st) (S := S) with h' | ⟨ix, h1, h2⟩ | ⟨ix, h1, h0, h2⟩ | ⟨ix, h1, -, -, -, h2⟩ | ⟨h', -⟩
    · obtain ⟨w, hw, -⟩ := h' _ h
      cases hw
    · rw [h2] at h
      exact absurd h zi_inv_nr
    · rw [h2] at h
      exact absurd h zi_inv_nr
    · rw [h2] at h
      exact absurd h zi_invs_nr
    · exact h'
  rcases key with rfl | rfl | rfl <;> simp only [zi_ex] at h <;> (repeat' split at h) <;> first | (cases h; done) | (cases h; trivial)
theorem zi_steps_le {P : Nat → Option zi_I} {rt : Nat} {call : Nat → List Value → zi_S → Option (Option Value × zi_S)} (hc : ∀ x as S v S', call x as S = some (v, S') → zi_le S S' ∧ zi_num v) : ∀ (f pc : Nat) (L : zi_L) (st : List Value) (S : zi_S) (v : Option Value) (S' : zi_S), zi_steps P rt call f pc L st S = some (v, S') → zi_le S S' ∧ zi_num v
  | 0, _, _, _, _, _, _, h => by cases h
  | f + 1, pc, L, st, S, v, S', h => by
    simp only [zi_steps] at h
    split at h
    · cases h
    · rename_i q hq
      split at h
      · cases h
      · rename_i w hw
        have h1 := zi_steps_le hc f _ _ _ _ _ _ h
        rcases zi_ex_kind (rt := rt) (q := q) (pc := pc) (L := L) (st := st) (S := S) with h' | ⟨ix, e1, h2⟩ | ⟨ix, e1, h0, h2⟩ | ⟨ix, e1, -, -, -, h2⟩ | ⟨-, h'⟩
        · obtain ⟨w', hw', hle⟩ := h' _ hw
          cases hw'
          exact ⟨hle.tr h1.1, h1.2⟩
        · rw [h2] at hw
          exact absurd hw zi_inv_nx
        · rw [h2] at hw
          exact absurd hw zi_inv_nx
        · rw [h2] at hw
          exact absurd hw zi_invs_nx
        · obtain ⟨v', hv'⟩ := h' _ hw
          cases hv'
      · rename_i w hw
        cases h
        exact ⟨zi_le.rf, zi_num_ret hw⟩
      · rename_i w hw
        split at h
        · cases h
        · rename_i u hu
          have h1 := zi_steps_le hc f _ _ _ _ _ _ h
          exact ⟨(hc _ _ _ u.1 u.2 hu).1.tr h1.1, h1.2⟩
section ZBB
variable {p : Program} {l : Launch} {e : Env} {R : Room} {s : State} {m : MethodId} {args : Array Value} {below : List Frame} {meth : Method} {c : Code} {D : va_G} {cy : Nat → ClassId} {d x : Nat} {ad0 : Nat → Nat} {S0 S' : zi_S} {M : Nat → Option zi_MI} {v : Option Value} {P : Nat → Nat → Option zi_I} {call : Nat → List Value → zi_S → Option (Option Value × zi_S)} {DM : zi_MI}
theorem zi_go (hP : zi_Prog P M) (hDM : M x = some DM) (hcall : ∀ x as S v S', call x as S = some (v, S') → zi_Met l M d x as S v S') (hRf : d + 1 ≤ R.frames) (hRl : 64 * (d + 1) ≤ R.locals) (hRc : S'.2.2.1 - S0.2.2.1 ≤ R.cells) (hRs : S'.2.2.2 - S0.2.2.2 ≤ R.slots)
    (X : zi_X p s m args meth c R D cy (va_A (zi_w cy ad0 S0.1 S0.2.1) s.heap.size) DM.2.1 DM.2.2.1 (x / 200) DM.1.name DM.2.2.2.1 ad0) : ∀ (f pc : Nat) (L : zi_L) (st : List Value) (S : zi_S), zi_le S0 S → zi_steps (P x) DM.2.2.2.1 call f pc L st S = some (v, S') → zi_Go p l e R s m args below meth c (MQ below (zi_Post D cy ad0 S0 v S' s.heap.size) args s (S'.2.2.1 - S0.2.2.1) (S'.2.2.2 - S0.2.2.2) (va_A (zi_w cy ad0 S0.1 S0.2.1) s.heap.size)) D cy (va_A (zi_w cy ad0 S0.1 S0.2.1) s.heap.size) DM.2.2.1 S0.2.1 ad0 S0.2.2.1 S0.2.2.2 pc L st S
  | 0, _, _, _, _, _, h => by cases h
  | f + 1, pc, L, st, S, hle, h => by
    have hc' : ∀ x as S v S', call x as S = some (v, S') → zi_le S S' ∧ zi_num v := fun x as S v S' hh => ⟨(hcall x as S v S' hh).1, (hcall x as S v S' hh).2.1⟩
    simp only [zi_steps] at h
    split at h
    · cases h
    · rename_i q hq
      obtain ⟨hd, hlen, hg⟩ := (hP x DM hDM).2.2 pc q hq
      split at h
      · cases h
      · rename_i w hw
        obtain ⟨pc', L', st', S1⟩ := w
        have hle1 : zi_le S S1 := by
          rcases zi_ex_kind (rt := DM.2.2.2.1) (q := q) (pc := pc) (L := L) (st := st) (S := S) with h' | ⟨ix, e1, h2⟩ | ⟨ix, e1, h0, h2⟩ | ⟨ix, e1, -, -, -, h2⟩ | ⟨-, h'⟩
          · obtain ⟨w', hw', hle⟩ := h' _ hw
            cases hw'
            exact hle
          · rw [h2] at hw
            exact absurd hw zi_inv_nx
          · rw [h2] at hw
            exact absurd hw zi_inv_nx
          · rw [h2] at hw
            exact absurd hw zi_invs_nx
          · obtain ⟨v', hv'⟩ := h' _ hw
            cases hv'
        have h2 := zi_steps_le hc' f _ _ _ _ _ _ h
        have hle2 := h2.1.2
        exact zi_step X hd hlen hg hw hle.1 hle.2.1 hle.2.2 (Nat.le_trans (Nat.sub_le_sub_right hle2.1 _) hRc) (Nat.le_trans (Nat.sub_le_sub_right hle2.2 _) hRs) (zi_go hP hDM hcall hRf hRl hRc hRs X f pc' L' st' S1 (hle.tr hle1) h)
      · rename_i w hw
        cases h
        exact (zi_c_R X hd hlen hw).2
      · rename_i w hw
        obtain ⟨x', as, r⟩ := w
        split at h
        · cases h
        · rename_i u hu
          obtain ⟨v1, S1⟩ := u
          have hM := hcall _ _ _ _ _ hu
          have h2 := zi_steps_le hc' f _ _ _ _ _ _ h
          have hle2 := h2.1.2
          have kk := zi_go hP hDM hcall hRf hRl hRc hRs X f (pc + 3) L (v1.toList ++ r) S1 (hle.tr hM.1) h
          have b1 := Nat.le_trans (Nat.sub_le_sub_right hle2.1 S0.2.2.1) hRc
          have b2 := Nat.le_trans (Nat.sub_le_sub_right hle2.2 S0.2.2.2) hRs
          obtain ⟨i, len, x1, y1, z1⟩ := q
          dsimp only at hd hlen
          rcases zi_ex_kind (rt := DM.2.2.2.1) (q := (i, len, x1, y1, z1)) (pc := pc) (L := L) (st := st) (S := S) with h' | ⟨ix, e1, h2⟩ | ⟨ix, e1, h0, h2⟩ | ⟨ix, e1, n1, n2, n3, h2⟩ | ⟨-, h'⟩
          · obtain ⟨w', hw', -⟩ := h' _ hw
            cases hw'
          · rw [h2] at hw
            have e1 : i = .invokevirtual ix := e1
            subst e1
            have hlen : len = 3 := hlen
            subst hlen
            exact zi_c_V X hRf hRl hd hg hw hM hle.1 hle.2.1 hle.2.2 b1 b2 kk
          · rw [h2] at hw
            have e1 : i = .invokespecial ix := e1
            subst e1
            have hlen : len = 3 := hlen
            subst hlen
            have h0 : ¬ x1 = 9000 := h0
            simp only [zi_good, if_neg h0] at hg
            exact zi_c_I X hRf hRl hd hg hw hM hle.1 hle.2.1 hle.2.2 b1 b2 kk
          · rw [h2] at hw
            have e1 : i = .invokestatic ix := e1
            subst e1
            have hlen : len = 3 := hlen
            subst hlen
            have n1 : ¬ x1 = 9001 := n1
            have n2 : ¬ x1 = 9002 := n2
            have n3 : ¬ x1 = 9003 := n3
            simp only [zi_good, if_neg n1, if_neg n2, if_neg n3] at hg
            exact zi_c_S X hRf hRl hd hg hw hM hle.1 hle.2.1 hle.2.2 b1 b2 kk
          · obtain ⟨v', hv'⟩ := h' _ hw
            cases hv'
end ZBB
/-! the locals with which a method begins -/
theorem zi_ent_ld : ∀ (as : List Value) (i k : Nat) (w : Value), zi_ld (zi_ent as) k = some w → (i + k, w) ∈ lv_args i as
  | [], i, k, w, h => by simp [zi_ent, zi_ld] at h
  | a :: as, i, k, w, h => by
    have two : a.category = 2 → zi_ent (a :: as) = some a :: none :: zi_ent as → (i + k, w) ∈ lv_args i (a :: as) := by
      intro hc e
      rw [e] at h
      simp only [lv_args, if_pos hc]
      match k, h with
      | 0, h =>
        simp [zi_ld] at h
        subst h
        simp
      | 1, h => simp [zi_ld] at h
      | k + 2, h =>
        have h' : zi_ld (zi_ent as) k = some w := by simpa [zi_ld] using h
        have := zi_ent_ld as (i + 2) k w h'
        rw [show i + 2 + k = i + (k + 2) by omega] at this
        exact List.mem_cons_of_mem _ this
    have one : ¬ a.category = 2 → zi_ent (a :: as) = some a :: zi_ent as → (i + k, w) ∈ lv_args i (a :: as) := by
      intro hc e
      rw [e] at h
      simp only [lv_args, if_neg hc]
      match k, h with
      | 0, h =>
        simp [zi_ld] at h
        subst h
        simp
      | k + 1, h =>
        have h' : zi_ld (zi_ent as) k = some w := by simpa [zi_ld] using h
        have := zi_ent_ld as (i + 1) k w h'
        rw [show i + 1 + k = i + (k + 1) by omega] at this
        exact List.mem_cons_of_mem _ this
    cases a with
    | long v => exact two rfl rfl
    | double v => exact two rfl rfl
    | _ => exact one (by simp [Value.category]) rfl
theorem zi_args_map (ad : Nat → Nat) : ∀ (as : List Value) (i : Nat), lv_args i (as.map (zi_v ad)) = (lv_args i as).map (fun q => (q.1, zi_v ad q.2))
  | [], _ => rfl
  | a :: as, i => by
    simp only [List.map_cons, lv_args, zi_v_cat]
    rw [zi_args_map ad as]
theorem zi_sl_len (ad : Nat → Nat) : ∀ (as : List Value), (lg_sl (as.map (zi_v ad))).length = (zi_ent as).length
  | [] => rfl
  | a :: as => by
    have h := zi_sl_len ad as
    simp only [lg_sl, List.map_cons, List.flatMap_cons] at h ⊢
    rw [List.length_append, h]
    cases a <;> simp [zi_ent, zi_v, Value.category] <;> omega
theorem zi_ent_ok {n : Nat} : ∀ {as : List Value}, (∀ w ∈ as, zi_ok n w) → ∀ k w, zi_ld (zi_ent as) k = some w → zi_ok n w := by
  intro as h k w hk
  have h1 := zi_ent_ld as 0 k w hk
  have : ∀ (as : List Value) (i j : Nat) (w : Value), (j, w) ∈ lv_args i as → w ∈ as := by
    intro as
    induction as with
    | nil => intro i j w h; cases h
    | cons a as ih =>
      intro i j w h
      simp only [lv_args] at h
      rcases List.mem_cons.mp h with h | h
      · cases h; exact List.mem_cons_self
      · exact List.mem_cons_of_mem _ (ih _ _ _ h)
  exact h w (this as 0 _ w h1)
theorem zi_pad_ld {L : zi_L} {n k : Nat} {w : Value} (h : zi_ld (L ++ List.replicate n none) k = some w) : zi_ld L k = some w := by
  unfold zi_ld at h
  split at h
  · rename_i v hv
    cases h
    rcases Nat.lt_or_ge k L.length with hk | hk
    · rw [List.getElem?_append_left hk] at hv
      simp [zi_ld, hv]
    · rw [List.getElem?_append_right hk] at hv
      have := List.eq_of_mem_replicate (List.mem_of_getElem? hv)
      cases this
  · cases h
theorem zi_entry {ad : Nat → Nat} {as : List Value} {n mL : Nat} (hl : (zi_ent as).length ≤ mL) (hok : ∀ w ∈ as, zi_ok n w) : zi_Lv ad ((lg_sl (as.map (zi_v ad)) ++ List.replicate (mL - (lg_sl (as.map (zi_v ad))).length) Slot.unset).toArray) mL n (zi_ent as ++ List.replicate (mL - (zi_ent as).length) none) := by
  have h := lv_entry (as.map (zi_v ad)) (n := mL) (by rw [zi_sl_len]; exact hl)
  refine ⟨h.1, by simp; omega, h.2.1, fun k w hk => ?_⟩
  have h1 := zi_pad_ld hk
  have h2 := zi_ent_ld as 0 k w h1
  refine ⟨h.2.2 (k, zi_v ad w) ?_, zi_ent_ok hok k w h1⟩
  rw [zi_args_map]
  rw [Nat.zero_add] at h2
  exact List.mem_map.mpr ⟨(k, w), h2, rfl⟩
/-- SOUND: what the abstract machine answers, the method does -/
theorem zi_sound {l : Launch} {P : Nat → Nat → Option zi_I} {M : Nat → Option zi_MI} {pr : Nat → List Value → zi_S → Option (Option Value × zi_S)} {f : Nat} (hP : zi_Prog P M) (hcls : zi_cls) (hpr : ∀ d x as S v S', pr x as S = some (v, S') → zi_Met l M (d + 1) x as S v S') : ∀ (d x : Nat) (as : List Value) (S : zi_S) (v : Option Value) (S' : zi_S), zi_call P M pr f d x as S = some (v, S') → zi_Met l M d x as S v S'
  | 0, _, _, _, _, _, h => by cases h
  | d + 1, x, as, S, v, S', h => by
    simp only [zi_call] at h
    split at h
    · rename_i r hr
      cases h
      exact hpr d x as S v S' hr
    · split at h
      · cases h
      · rename_i DM hDM
        obtain ⟨hlen, h⟩ := zi_cond_inv h
        have hlen := Nat.le_of_ble_eq_true hlen
        have ih := zi_sound (l := l) (pr := pr) (f := f) hP hcls hpr d
        have hle := zi_steps_le (fun x as S v S' hh => ⟨(ih x as S v S' hh).1, (ih x as S v S' hh).2.1⟩) _ _ _ _ _ _ _ h
        refine ⟨hle.1, hle.2, ?_⟩
        intro DM' D cy ad sz hDM' hwf hok
        rw [hDM] at hDM'
        cases hDM'
        refine Met.ofW (cc := DM.2.1) (maxL := DM.2.2.1) (ret := zi_rt DM.2.2.2.1) (hP x DM hDM).1 rfl ?_
        intro p e s m args below meth c s₁ B hml hv
        obtain ⟨rfl, hsz, hPp, hK, hD0, hN, hSF⟩ := hv
        subst hsz
        have hts := atoms_spec (ws := Cond.code DM.1 DM.2.1 DM.2.2.1 (zi_rt DM.2.2.2.1) :: zi_tb) B.pre
        have hown : s.vm.findClass (zi_cn (x / 200)) = some m.cls := by
          rw [← (hP x DM hDM).2.1]
          exact findClass_of_methodNamed B.named
        have hname : meth.name = DM.1.name := (name_of_methodNamed B.named B.method).1
        rw [lg_entry_eq]
        have X : zi_X p s m (as.map (zi_v ad)).toArray meth c (headSpec (Cond.code DM.1 DM.2.1 DM.2.2.1 (zi_rt DM.2.2.2.1) :: zi_tb) (zi_R (d + 1) (S'.2.2.1 - S.2.2.1) (S'.2.2.2 - S.2.2.2))).room D cy (va_A (zi_w cy ad S.1 S.2.1) s.heap.size) DM.2.1 DM.2.2.1 (x / 200) DM.1.name DM.2.2.2.1 ad :=
          ⟨B.exec, B.bytes, hml, hown, fun w hw => hts w (List.mem_cons_of_mem _ hw), hN, hK, fun q h => Or.inr h, hcls, hname, B.returns, B.notSynchronized, by show 1 ≤ d + 1; omega, by show 64 ≤ 64 * (d + 1); omega, hSF⟩
        have G := zi_go (e := e) (below := below) (R := (headSpec (Cond.code DM.1 DM.2.1 DM.2.2.1 (zi_rt DM.2.2.2.1) :: zi_tb) (zi_R (d + 1) (S'.2.2.1 - S.2.2.1) (S'.2.2.2 - S.2.2.2))).room) hP hDM ih (by show d + 1 ≤ d + 1; omega) (by show 64 * (d + 1) ≤ 64 * (d + 1); omega) (Nat.le_refl _) (Nat.le_refl _) X f 0 _ _ S zi_le.rf h
        have g := G ad _ s.heap [] zi_ag.rf ⟨hPp, hD0.self, va_S.rf, hwf.1, hwf.2.1, hwf.2.2⟩ (zi_entry hlen hok) (fun w hw => by cases hw)
        rw [Nat.sub_self, Nat.sub_self] at g
        exact g
end
section
/-! ===== printed by wip/gen/emit.py: the program's code, resolved ===== -/
def kX0_init : List (Option zi_I) := [some (.aload_n 0, 1, 0, 0, []), some (.invokespecial 3, 3, 9000, 0, []), none, none, some (.aload_n 0, 1, 0, 0, []), some (.new 9, 3, 7, 0, []), none, none, some (.dup, 1, 0, 0, []), some (.invokespecial 11, 3, 1400, 0, []), none, none, some (.putfield 12, 3, 0, 0, []), none, none, some (.aload_n 0, 1, 0, 0, []), some (.bipush 32, 2, 0, 0, []), none, some (.newarray .int, 2, 0, 0, []), none, some (.putfield 18, 3, 0, 1, []), none, none, some (.aload_n 0, 1, 0, 0, []), some (.bipush 8, 2, 0, 0, []), none, some (.newarray .int, 2, 0, 0, []), none, some (.putfield 22, 3, 0, 2, []), none, none, some (.aload_n 0, 1, 0, 0, []), some (.bipush 8, 2, 0, 0, []), none, some (.newarray .int, 2, 0, 0, []), none, some (.putfield 25, 3, 0, 3, []), none, none, some (.aload_n 0, 1, 0, 0, []), some (.bipush 8, 2, 0, 0, []), none, some (.newarray .int, 2, 0, 0, []), none, some (.putfield 28, 3, 0, 4, []), none, none, some (.aload_n 0, 1, 0, 0, []), some (.bipush 8, 2, 0, 0, []), none, some (.newarray .int, 2, 0, 0, []), none, some (.putfield 31, 3, 0, 5, []), none, none, some (.aload_n 0, 1, 0, 0, []), some (.iconst 4, 1, 0, 0, []), some (.newarray .int, 2, 0, 0, []), none, some (.putfield 34, 3, 0, 6, []), none, none, some (.return_, 1, 0, 0, [])]
def kX0_hasLock : List (Option zi_I) := [some (.iload_n 1, 1, 0, 0, []), some (.ifCond .lt 15, 3, 16, 0, []), none, none, some (.iload_n 1, 1, 0, 0, []), some (.aload_n 0, 1, 0, 0, []), some (.getfield 37, 3, 0, 7, []), none, none, some (.if_icmp .ge 7, 3, 16, 0, []), none, none, some (.iconst 1, 1, 0, 0, []), some (.goto 4, 3, 17, 0, []), none, none, some (.iconst 0, 1, 0, 0, []), some (.ireturn, 1, 0, 0, [])]
def kX0_hasPlace : List (Option zi_I) := [some (.iload_n 1, 1, 0, 0, []), some (.ifCond .lt 15, 3, 16, 0, []), none, none, some (.iload_n 1, 1, 0, 0, []), some (.aload_n 0, 1, 0, 0, []), some (.getfield 37, 3, 0, 7, []), none, none, some (.if_icmp .gt 7, 3, 16, 0, []), none, none, some (.iconst 1, 1, 0, 0, []), some (.goto 4, 3, 17, 0, []), none, none, some (.iconst 0, 1, 0, 0, []), some (.ireturn, 1, 0, 0, [])]
def kX0_hasSinger : List (Option zi_I) := [some (.iload_n 1, 1, 0, 0, []), some (.ifCond .lt 15, 3, 16, 0, []), none, none, some (.iload_n 1, 1, 0, 0, []), some (.aload_n 0, 1, 0, 0, []), some (.getfield 41, 3, 0, 8, []), none, none, some (.if_icmp .ge 7, 3, 16, 0, []), none, none, some (.iconst 1, 1, 0, 0, []), some (.goto 4, 3, 17, 0, []), none, none, some (.iconst 0, 1, 0, 0, []), some (.ireturn, 1, 0, 0, [])]
def kX0_hasBarge : List (Option zi_I) := [some (.iload_n 1, 1, 0, 0, []), some (.ifCond .lt 15, 3, 16, 0, []), none, none, some (.iload_n 1, 1, 0, 0, []), some (.aload_n 0, 1, 0, 0, []), some (.getfield 44, 3, 0, 9, []), none, none, some (.if_icmp .ge 7, 3, 16, 0, []), none, none, some (.iconst 1, 1, 0, 0, []), some (.goto 4, 3, 17, 0, []), none, none, some (.iconst 0, 1, 0, 0, []), some (.ireturn, 1, 0, 0, [])]
def kX0_many : List (Option zi_I) := [some (.iload_n 1, 1, 0, 0, []), some (.ifCond .ne 8, 3, 9, 0, []), none, none, some (.aload_n 0, 1, 0, 0, []), some (.getfield 37, 3, 0, 7, []), none, none, some (.ireturn, 1, 0, 0, []), some (.iload_n 1, 1, 0, 0, []), some (.iconst 1, 1, 0, 0, []), some (.if_icmp .ne 10, 3, 21, 0, []), none, none, some (.aload_n 0, 1, 0, 0, []), some (.getfield 41, 3, 0, 8, []), none, none, some (.goto 7, 3, 25, 0, []), none, none, some (.aload_n 0, 1, 0, 0, []), some (.getfield 44, 3, 0, 9, []), none, none, some (.ireturn, 1, 0, 0, [])]
def kX0_room : List (Option zi_I) := [some (.iload_n 1, 1, 0, 0, []), some (.ifCond .ne 6, 3, 7, 0, []), none, none, some (.bipush 8, 2, 0, 0, []), none, some (.ireturn, 1, 0, 0, []), some (.iload_n 1, 1, 0, 0, []), some (.iconst 1, 1, 0, 0, []), some (.if_icmp .ne 8, 3, 17, 0, []), none, none, some (.bipush 8, 2, 0, 0, []), none, some (.goto 4, 3, 18, 0, []), none, none, some (.iconst 4, 1, 0, 0, []), some (.ireturn, 1, 0, 0, [])]
def kX0_grow : List (Option zi_I) := [some (.iload_n 1, 1, 0, 0, []), some (.ifCond .ne 16, 3, 17, 0, []), none, none, some (.aload_n 0, 1, 0, 0, []), some (.dup, 1, 0, 0, []), some (.getfield 37, 3, 0, 7, []), none, none, some (.iload_n 2, 1, 0, 0, []), some (.iadd, 1, 0, 0, []), some (.putfield 37, 3, 0, 7, []), none, none, some (.goto 31, 3, 45, 0, []), none, none, some (.iload_n 1, 1, 0, 0, []), some (.iconst 1, 1, 0, 0, []), some (.if_icmp .ne 16, 3, 35, 0, []), none, none, some (.aload_n 0, 1, 0, 0, []), some (.dup, 1, 0, 0, []), some (.getfield 41, 3, 0, 8, []), none, none, some (.iload_n 2, 1, 0, 0, []), some (.iadd, 1, 0, 0, []), some (.putfield 41, 3, 0, 8, []), none, none, some (.goto 13, 3, 45, 0, []), none, none, some (.aload_n 0, 1, 0, 0, []), some (.dup, 1, 0, 0, []), some (.getfield 44, 3, 0, 9, []), none, none, some (.iload_n 2, 1, 0, 0, []), some (.iadd, 1, 0, 0, []), some (.putfield 44, 3, 0, 9, []), none, none, some (.return_, 1, 0, 0, [])]
def kX0_readLine : List (Option zi_I) := [some (.iload_n 1, 1, 0, 0, []), some (.ifCond .ne 10, 3, 11, 0, []), none, none, some (.aload_n 0, 1, 0, 0, []), some (.iload_n 2, 1, 0, 0, []), some (.aload_n 3, 1, 0, 0, []), some (.invokevirtual 47, 3, 9, 2, []), none, none, some (.ireturn, 1, 0, 0, []), some (.iload_n 1, 1, 0, 0, []), some (.iconst 1, 1, 0, 0, []), some (.if_icmp .ne 14, 3, 27, 0, []), none, none, some (.aload_n 0, 1, 0, 0, []), some (.iload_n 2, 1, 0, 0, []), some (.aload_n 3, 1, 0, 0, []), some (.aload 4, 2, 0, 0, []), none, some (.invokevirtual 51, 3, 10, 3, []), none, none, some (.goto 11, 3, 35, 0, []), none, none, some (.aload_n 0, 1, 0, 0, []), some (.iload_n 2, 1, 0, 0, []), some (.aload_n 3, 1, 0, 0, []), some (.aload 4, 2, 0, 0, []), none, some (.invokevirtual 55, 3, 11, 3, []), none, none, some (.ireturn, 1, 0, 0, [])]
def kX0_readLock : List (Option zi_I) := [some (.bipush 97, 2, 0, 0, []), none, some (.istore_n 3, 1, 0, 0, []), some (.iconst 0, 1, 0, 0, []), some (.istore 4, 2, 0, 0, []), none, some (.iload 4, 2, 0, 0, []), none, some (.iconst 4, 1, 0, 0, []), some (.if_icmp .ge 38, 3, 47, 0, []), none, none, some (.aload_n 2, 1, 0, 0, []), some (.iload_n 3, 1, 0, 0, []), some (.bipush 122, 2, 0, 0, []), none, some (.invokevirtual 58, 3, 1610, 2, []), none, none, some (.istore_n 3, 1, 0, 0, []), some (.iload_n 3, 1, 0, 0, []), some (.ifCond .ge 5, 3, 26, 0, []), none, none, some (.iconst 0, 1, 0, 0, []), some (.ireturn, 1, 0, 0, []), some (.aload_n 0, 1, 0, 0, []), some (.getfield 18, 3, 0, 1, []), none, none, some (.iload_n 1, 1, 0, 0, []), some (.iconst 4, 1, 0, 0, []), some (.imul, 1, 0, 0, []), some (.iload 4, 2, 0, 0, []), none, some (.iadd, 1, 0, 0, []), some (.iload_n 3, 1, 0, 0, []), some (.bipush 97, 2, 0, 0, []), none, some (.isub, 1, 0, 0, []), some (.iastore, 1, 0, 0, []), some (.iinc 4 1, 3, 0, 0, []), none, none, some (.goto (-38), 3, 6, 0, []), none, none, some (.aload_n 2, 1, 0, 0, []), some (.bipush 49, 2, 0, 0, []), none, some (.bipush 57, 2, 0, 0, []), none, some (.invokevirtual 58, 3, 1610, 2, []), none, none, some (.istore 4, 2, 0, 0, []), none, some (.aload_n 0, 1, 0, 0, []), some (.getfield 22, 3, 0, 2, []), none, none, some (.iload_n 1, 1, 0, 0, []), some (.iload 4, 2, 0, 0, []), none, some (.bipush 48, 2, 0, 0, []), none, some (.isub, 1, 0, 0, []), some (.iastore, 1, 0, 0, []), some (.iload 4, 2, 0, 0, []), none, some (.ifCond .lt 7, 3, 77, 0, []), none, none, some (.iconst 1, 1, 0, 0, []), some (.goto 4, 3, 78, 0, []), none, none, some (.iconst 0, 1, 0, 0, []), some (.ireturn, 1, 0, 0, [])]
def kX0_readSinger : List (Option zi_I) := [some (.aload_n 2, 1, 0, 0, []), some (.bipush 97, 2, 0, 0, []), none, some (.bipush 122, 2, 0, 0, []), none, some (.invokevirtual 58, 3, 1610, 2, []), none, none, some (.istore 4, 2, 0, 0, []), none, some (.iload 4, 2, 0, 0, []), none, some (.ifCond .ge 5, 3, 17, 0, []), none, none, some (.iconst 0, 1, 0, 0, []), some (.ireturn, 1, 0, 0, []), some (.aload_n 2, 1, 0, 0, []), some (.iload 4, 2, 0, 0, []), none, some (.bipush 122, 2, 0, 0, []), none, some (.invokevirtual 58, 3, 1610, 2, []), none, none, some (.istore 5, 2, 0, 0, []), none, some (.iload 5, 2, 0, 0, []), none, some (.ifCond .ge 5, 3, 34, 0, []), none, none, some (.iconst 0, 1, 0, 0, []), some (.ireturn, 1, 0, 0, []), some (.aload_n 0, 1, 0, 0, []), some (.aload_n 2, 1, 0, 0, []), some (.invokevirtual 64, 3, 12, 1, []), none, none, some (.istore 6, 2, 0, 0, []), none, some (.iload 6, 2, 0, 0, []), none, some (.ifCond .lt 14, 3, 57, 0, []), none, none, some (.aload_n 2, 1, 0, 0, []), some (.bipush 58, 2, 0, 0, []), none, some (.bipush 58, 2, 0, 0, []), none, some (.invokevirtual 58, 3, 1610, 2, []), none, none, some (.ifCond .ge 5, 3, 59, 0, []), none, none, some (.iconst 0, 1, 0, 0, []), some (.ireturn, 1, 0, 0, []), some (.aload_n 0, 1, 0, 0, []), some (.getfield 25, 3, 0, 3, []), none, none, some (.iload_n 1, 1, 0, 0, []), some (.iload 4, 2, 0, 0, []), none, some (.bipush 97, 2, 0, 0, []), none, some (.isub, 1, 0, 0, []), some (.iastore, 1, 0, 0, []), some (.aload_n 0, 1, 0, 0, []), some (.getfield 28, 3, 0, 4, []), none, none, some (.iload_n 1, 1, 0, 0, []), some (.iload 5, 2, 0, 0, []), none, some (.bipush 97, 2, 0, 0, []), none, some (.isub, 1, 0, 0, []), some (.iastore, 1, 0, 0, []), some (.aload_n 0, 1, 0, 0, []), some (.getfield 31, 3, 0, 5, []), none, none, some (.iload_n 1, 1, 0, 0, []), some (.aload_n 2, 1, 0, 0, []), some (.iconst 2, 1, 0, 0, []), some (.invokevirtual 68, 3, 1611, 1, []), none, none, some (.iastore, 1, 0, 0, []), some (.aload_n 3, 1, 0, 0, []), some (.getfield 72, 3, 3, 3, []), none, none, some (.iload_n 1, 1, 0, 0, []), some (.iload 6, 2, 0, 0, []), none, some (.iastore, 1, 0, 0, []), some (.aload_n 3, 1, 0, 0, []), some (.getfield 77, 3, 3, 4, []), none, none, some (.iload_n 1, 1, 0, 0, []), some (.iconst (-1), 1, 0, 0, []), some (.iastore, 1, 0, 0, []), some (.aload_n 3, 1, 0, 0, []), some (.getfield 80, 3, 3, 5, []), none, none, some (.iload_n 1, 1, 0, 0, []), some (.iconst 0, 1, 0, 0, []), some (.iastore, 1, 0, 0, []), some (.aload_n 0, 1, 0, 0, []), some (.getfield 31, 3, 0, 5, []), none, none, some (.iload_n 1, 1, 0, 0, []), some (.iaload, 1, 0, 0, []), some (.ifCond .lt 7, 3, 127, 0, []), none, none, some (.iconst 1, 1, 0, 0, []), some (.goto 4, 3, 128, 0, []), none, none, some (.iconst 0, 1, 0, 0, []), some (.ireturn, 1, 0, 0, [])]
def kX0_readBarge : List (Option zi_I) := [some (.aload_n 0, 1, 0, 0, []), some (.aload_n 2, 1, 0, 0, []), some (.invokevirtual 64, 3, 12, 1, []), none, none, some (.istore 4, 2, 0, 0, []), none, some (.iload 4, 2, 0, 0, []), none, some (.ifCond .ge 5, 3, 14, 0, []), none, none, some (.iconst 0, 1, 0, 0, []), some (.ireturn, 1, 0, 0, []), some (.aload_n 0, 1, 0, 0, []), some (.getfield 34, 3, 0, 6, []), none, none, some (.iload_n 1, 1, 0, 0, []), some (.aload_n 2, 1, 0, 0, []), some (.iconst 1, 1, 0, 0, []), some (.invokevirtual 68, 3, 1611, 1, []), none, none, some (.iastore, 1, 0, 0, []), some (.aload_n 3, 1, 0, 0, []), some (.getfield 83, 3, 3, 6, []), none, none, some (.iload_n 1, 1, 0, 0, []), some (.iload 4, 2, 0, 0, []), none, some (.iastore, 1, 0, 0, []), some (.aload_n 3, 1, 0, 0, []), some (.getfield 86, 3, 3, 7, []), none, none, some (.iload_n 1, 1, 0, 0, []), some (.bipush 100, 2, 0, 0, []), none, some (.iastore, 1, 0, 0, []), some (.aload_n 0, 1, 0, 0, []), some (.getfield 34, 3, 0, 6, []), none, none, some (.iload_n 1, 1, 0, 0, []), some (.iaload, 1, 0, 0, []), some (.ifCond .lt 7, 3, 54, 0, []), none, none, some (.iconst 1, 1, 0, 0, []), some (.goto 4, 3, 55, 0, []), none, none, some (.iconst 0, 1, 0, 0, []), some (.ireturn, 1, 0, 0, [])]
def kX0_readPlace : List (Option zi_I) := [some (.aload_n 1, 1, 0, 0, []), some (.bipush 48, 2, 0, 0, []), none, some (.bipush 48, 2, 0, 0, []), none, some (.aload_n 0, 1, 0, 0, []), some (.getfield 37, 3, 0, 7, []), none, none, some (.iadd, 1, 0, 0, []), some (.invokevirtual 58, 3, 1610, 2, []), none, none, some (.istore_n 2, 1, 0, 0, []), some (.iload_n 2, 1, 0, 0, []), some (.ifCond .ge 7, 3, 22, 0, []), none, none, some (.iconst (-1), 1, 0, 0, []), some (.goto 7, 3, 26, 0, []), none, none, some (.iload_n 2, 1, 0, 0, []), some (.bipush 48, 2, 0, 0, []), none, some (.isub, 1, 0, 0, []), some (.ireturn, 1, 0, 0, [])]
def kX0_takeFees : List (Option zi_I) := [some (.iconst 0, 1, 0, 0, []), some (.istore 5, 2, 0, 0, []), none, some (.iload_n 3, 1, 0, 0, []), some (.istore 6, 2, 0, 0, []), none, some (.iconst 0, 1, 0, 0, []), some (.istore 7, 2, 0, 0, []), none, some (.iload 7, 2, 0, 0, []), none, some (.aload_n 0, 1, 0, 0, []), some (.getfield 41, 3, 0, 8, []), none, none, some (.if_icmp .ge 60, 3, 75, 0, []), none, none, some (.aload_n 0, 1, 0, 0, []), some (.getfield 31, 3, 0, 5, []), none, none, some (.iload 7, 2, 0, 0, []), none, some (.iload 7, 2, 0, 0, []), none, some (.iload_n 2, 1, 0, 0, []), some (.if_icmp .ge 21, 3, 48, 0, []), none, none, some (.iconst 0, 1, 0, 0, []), some (.bipush 99, 2, 0, 0, []), none, some (.iload_n 1, 1, 0, 0, []), some (.iload 6, 2, 0, 0, []), none, some (.invokestatic 89, 3, 14, 2, []), none, none, some (.invokestatic 92, 3, 9002, 0, []), none, none, some (.invokestatic 97, 3, 9001, 0, []), none, none, some (.goto 4, 3, 49, 0, []), none, none, some (.iconst 0, 1, 0, 0, []), some (.iastore, 1, 0, 0, []), some (.iload 5, 2, 0, 0, []), none, some (.aload_n 0, 1, 0, 0, []), some (.getfield 31, 3, 0, 5, []), none, none, some (.iload 7, 2, 0, 0, []), none, some (.iaload, 1, 0, 0, []), some (.iadd, 1, 0, 0, []), some (.istore 5, 2, 0, 0, []), none, some (.iload 6, 2, 0, 0, []), none, some (.iload 4, 2, 0, 0, []), none, some (.iadd, 1, 0, 0, []), some (.istore 6, 2, 0, 0, []), none, some (.iinc 7 1, 3, 0, 0, []), none, none, some (.goto (-63), 3, 9, 0, []), none, none, some (.iload 5, 2, 0, 0, []), none, some (.ireturn, 1, 0, 0, [])]
def kX0_narrowed : List (Option zi_I) := [some (.iload_n 0, 1, 0, 0, []), some (.ifCond .ne 6, 3, 7, 0, []), none, none, some (.iload_n 1, 1, 0, 0, []), some (.i2b, 1, 0, 0, []), some (.ireturn, 1, 0, 0, []), some (.iload_n 0, 1, 0, 0, []), some (.iconst 1, 1, 0, 0, []), some (.if_icmp .ne 8, 3, 17, 0, []), none, none, some (.iload_n 1, 1, 0, 0, []), some (.i2s, 1, 0, 0, []), some (.goto 4, 3, 18, 0, []), none, none, some (.iload_n 1, 1, 0, 0, []), some (.ireturn, 1, 0, 0, [])]
def kX0_crewOf : List (Option zi_I) := [some (.iconst 0, 1, 0, 0, []), some (.istore_n 3, 1, 0, 0, []), some (.iconst 0, 1, 0, 0, []), some (.istore 4, 2, 0, 0, []), none, some (.iload 4, 2, 0, 0, []), none, some (.aload_n 0, 1, 0, 0, []), some (.getfield 41, 3, 0, 8, []), none, none, some (.if_icmp .ge 31, 3, 42, 0, []), none, none, some (.iload_n 3, 1, 0, 0, []), some (.aload_n 1, 1, 0, 0, []), some (.getfield 77, 3, 3, 4, []), none, none, some (.iload 4, 2, 0, 0, []), none, some (.iaload, 1, 0, 0, []), some (.iload_n 2, 1, 0, 0, []), some (.if_icmp .ne 10, 3, 33, 0, []), none, none, some (.iconst 1, 1, 0, 0, []), some (.iload 4, 2, 0, 0, []), none, some (.ishl, 1, 0, 0, []), some (.goto 4, 3, 34, 0, []), none, none, some (.iconst 0, 1, 0, 0, []), some (.ior, 1, 0, 0, []), some (.istore_n 3, 1, 0, 0, []), some (.iinc 4 1, 3, 0, 0, []), none, none, some (.goto (-34), 3, 5, 0, []), none, none, some (.iload_n 3, 1, 0, 0, []), some (.ireturn, 1, 0, 0, [])]
def kX0_freeAt : List (Option zi_I) := [some (.iconst 0, 1, 0, 0, []), some (.istore_n 3, 1, 0, 0, []), some (.iconst 0, 1, 0, 0, []), some (.istore 4, 2, 0, 0, []), none, some (.iload 4, 2, 0, 0, []), none, some (.aload_n 0, 1, 0, 0, []), some (.getfield 41, 3, 0, 8, []), none, none, some (.if_icmp .ge 42, 3, 53, 0, []), none, none, some (.iload_n 3, 1, 0, 0, []), some (.aload_n 1, 1, 0, 0, []), some (.getfield 77, 3, 3, 4, []), none, none, some (.iload 4, 2, 0, 0, []), none, some (.iaload, 1, 0, 0, []), some (.iconst (-1), 1, 0, 0, []), some (.if_icmp .ne 21, 3, 44, 0, []), none, none, some (.aload_n 1, 1, 0, 0, []), some (.getfield 72, 3, 3, 3, []), none, none, some (.iload 4, 2, 0, 0, []), none, some (.iaload, 1, 0, 0, []), some (.iload_n 2, 1, 0, 0, []), some (.if_icmp .ne 10, 3, 44, 0, []), none, none, some (.iconst 1, 1, 0, 0, []), some (.iload 4, 2, 0, 0, []), none, some (.ishl, 1, 0, 0, []), some (.goto 4, 3, 45, 0, []), none, none, some (.iconst 0, 1, 0, 0, []), some (.ior, 1, 0, 0, []), some (.istore_n 3, 1, 0, 0, []), some (.iinc 4 1, 3, 0, 0, []), none, none, some (.goto (-45), 3, 5, 0, []), none, none, some (.iload_n 3, 1, 0, 0, []), some (.ireturn, 1, 0, 0, [])]
def kX0_tiredOf : List (Option zi_I) := [some (.iconst 0, 1, 0, 0, []), some (.istore_n 3, 1, 0, 0, []), some (.iconst 0, 1, 0, 0, []), some (.istore 4, 2, 0, 0, []), none, some (.iload 4, 2, 0, 0, []), none, some (.aload_n 0, 1, 0, 0, []), some (.getfield 41, 3, 0, 8, []), none, none, some (.if_icmp .ge 33, 3, 44, 0, []), none, none, some (.iload_n 3, 1, 0, 0, []), some (.iload_n 2, 1, 0, 0, []), some (.iload 4, 2, 0, 0, []), none, some (.ishr, 1, 0, 0, []), some (.iconst 1, 1, 0, 0, []), some (.iand, 1, 0, 0, []), some (.iconst 1, 1, 0, 0, []), some (.if_icmp .ne 13, 3, 35, 0, []), none, none, some (.aload_n 1, 1, 0, 0, []), some (.getfield 80, 3, 3, 5, []), none, none, some (.iload 4, 2, 0, 0, []), none, some (.iaload, 1, 0, 0, []), some (.goto 4, 3, 36, 0, []), none, none, some (.iconst 0, 1, 0, 0, []), some (.iadd, 1, 0, 0, []), some (.istore_n 3, 1, 0, 0, []), some (.iinc 4 1, 3, 0, 0, []), none, none, some (.goto (-36), 3, 5, 0, []), none, none, some (.iload_n 3, 1, 0, 0, []), some (.ireturn, 1, 0, 0, [])]
def kX0_feesOf : List (Option zi_I) := [some (.iconst 0, 1, 0, 0, []), some (.istore_n 2, 1, 0, 0, []), some (.iconst 0, 1, 0, 0, []), some (.istore_n 3, 1, 0, 0, []), some (.iload_n 3, 1, 0, 0, []), some (.aload_n 0, 1, 0, 0, []), some (.getfield 41, 3, 0, 8, []), none, none, some (.if_icmp .ge 31, 3, 40, 0, []), none, none, some (.iload_n 2, 1, 0, 0, []), some (.iload_n 1, 1, 0, 0, []), some (.iload_n 3, 1, 0, 0, []), some (.ishr, 1, 0, 0, []), some (.iconst 1, 1, 0, 0, []), some (.iand, 1, 0, 0, []), some (.iconst 1, 1, 0, 0, []), some (.if_icmp .ne 12, 3, 31, 0, []), none, none, some (.aload_n 0, 1, 0, 0, []), some (.getfield 31, 3, 0, 5, []), none, none, some (.iload_n 3, 1, 0, 0, []), some (.iaload, 1, 0, 0, []), some (.goto 4, 3, 32, 0, []), none, none, some (.iconst 0, 1, 0, 0, []), some (.iadd, 1, 0, 0, []), some (.istore_n 2, 1, 0, 0, []), some (.iinc 3 1, 3, 0, 0, []), none, none, some (.goto (-33), 3, 4, 0, []), none, none, some (.iload_n 2, 1, 0, 0, []), some (.ireturn, 1, 0, 0, [])]
def kX0_ableToSing : List (Option zi_I) := [some (.iconst 0, 1, 0, 0, []), some (.istore_n 3, 1, 0, 0, []), some (.iload_n 2, 1, 0, 0, []), some (.ifCond .lt 21, 3, 24, 0, []), none, none, some (.iload_n 2, 1, 0, 0, []), some (.bipush 26, 2, 0, 0, []), none, some (.if_icmp .ge 15, 3, 24, 0, []), none, none, some (.aload_n 0, 1, 0, 0, []), some (.getfield 100, 3, 0, 10, []), none, none, some (.iload_n 2, 1, 0, 0, []), some (.ishr, 1, 0, 0, []), some (.iconst 1, 1, 0, 0, []), some (.iand, 1, 0, 0, []), some (.iconst 1, 1, 0, 0, []), some (.if_icmp .ne 5, 3, 26, 0, []), none, none, some (.iload_n 3, 1, 0, 0, []), some (.ireturn, 1, 0, 0, []), some (.iconst 0, 1, 0, 0, []), some (.istore 4, 2, 0, 0, []), none, some (.iload 4, 2, 0, 0, []), none, some (.aload_n 0, 1, 0, 0, []), some (.getfield 41, 3, 0, 8, []), none, none, some (.if_icmp .ge 50, 3, 85, 0, []), none, none, some (.iload_n 3, 1, 0, 0, []), some (.aload_n 0, 1, 0, 0, []), some (.getfield 25, 3, 0, 3, []), none, none, some (.iload 4, 2, 0, 0, []), none, some (.iaload, 1, 0, 0, []), some (.iload_n 2, 1, 0, 0, []), some (.if_icmp .gt 29, 3, 76, 0, []), none, none, some (.iload_n 2, 1, 0, 0, []), some (.aload_n 0, 1, 0, 0, []), some (.getfield 28, 3, 0, 4, []), none, none, some (.iload 4, 2, 0, 0, []), none, some (.iaload, 1, 0, 0, []), some (.aload_n 1, 1, 0, 0, []), some (.getfield 80, 3, 3, 5, []), none, none, some (.iload 4, 2, 0, 0, []), none, some (.iaload, 1, 0, 0, []), some (.isub, 1, 0, 0, []), some (.if_icmp .gt 10, 3, 76, 0, []), none, none, some (.iconst 1, 1, 0, 0, []), some (.iload 4, 2, 0, 0, []), none, some (.ishl, 1, 0, 0, []), some (.goto 4, 3, 77, 0, []), none, none, some (.iconst 0, 1, 0, 0, []), some (.ior, 1, 0, 0, []), some (.istore_n 3, 1, 0, 0, []), some (.iinc 4 1, 3, 0, 0, []), none, none, some (.goto (-53), 3, 29, 0, []), none, none, some (.iload_n 3, 1, 0, 0, []), some (.ireturn, 1, 0, 0, [])]
def kX0_chordBits : List (Option zi_I) := [some (.iconst 0, 1, 0, 0, []), some (.istore_n 2, 1, 0, 0, []), some (.iconst 0, 1, 0, 0, []), some (.istore_n 3, 1, 0, 0, []), some (.iload_n 3, 1, 0, 0, []), some (.iconst 4, 1, 0, 0, []), some (.if_icmp .ge 24, 3, 30, 0, []), none, none, some (.iload_n 2, 1, 0, 0, []), some (.iconst 1, 1, 0, 0, []), some (.aload_n 0, 1, 0, 0, []), some (.getfield 18, 3, 0, 1, []), none, none, some (.iload_n 1, 1, 0, 0, []), some (.iconst 4, 1, 0, 0, []), some (.imul, 1, 0, 0, []), some (.iload_n 3, 1, 0, 0, []), some (.iadd, 1, 0, 0, []), some (.iaload, 1, 0, 0, []), some (.ishl, 1, 0, 0, []), some (.ior, 1, 0, 0, []), some (.istore_n 2, 1, 0, 0, []), some (.iinc 3 1, 3, 0, 0, []), none, none, some (.goto (-23), 3, 4, 0, []), none, none, some (.iload_n 2, 1, 0, 0, []), some (.ireturn, 1, 0, 0, [])]
def kX1_init : List (Option zi_I) := [some (.aload_n 0, 1, 0, 0, []), some (.invokespecial 3, 3, 9000, 0, []), none, none, some (.aload_n 0, 1, 0, 0, []), some (.bipush 16, 2, 0, 0, []), none, some (.newarray .int, 2, 0, 0, []), none, some (.putfield 9, 3, 1, 1, []), none, none, some (.aload_n 0, 1, 0, 0, []), some (.iconst 4, 1, 0, 0, []), some (.newarray .int, 2, 0, 0, []), none, some (.putfield 15, 3, 1, 2, []), none, none, some (.aload_n 0, 1, 0, 0, []), some (.aload_n 1, 1, 0, 0, []), some (.putfield 18, 3, 1, 0, []), none, none, some (.return_, 1, 0, 0, [])]
def kX1_gather : List (Option zi_I) := [some (.iconst 1, 1, 0, 0, []), some (.istore 4, 2, 0, 0, []), none, some (.iload 4, 2, 0, 0, []), none, some (.bipush 15, 2, 0, 0, []), none, some (.if_icmp .gt 78, 3, 85, 0, []), none, none, some (.iload 4, 2, 0, 0, []), none, some (.iload 4, 2, 0, 0, []), none, some (.iconst 1, 1, 0, 0, []), some (.isub, 1, 0, 0, []), some (.iand, 1, 0, 0, []), some (.istore 5, 2, 0, 0, []), none, some (.aload_n 0, 1, 0, 0, []), some (.getfield 9, 3, 1, 1, []), none, none, some (.iload 4, 2, 0, 0, []), none, some (.iload 5, 2, 0, 0, []), none, some (.ifCond .ne 33, 3, 60, 0, []), none, none, some (.aload_n 0, 1, 0, 0, []), some (.getfield 18, 3, 1, 0, []), none, none, some (.aload_n 1, 1, 0, 0, []), some (.aload_n 0, 1, 0, 0, []), some (.getfield 18, 3, 1, 0, []), none, none, some (.getfield 22, 3, 0, 1, []), none, none, some (.iload_n 2, 1, 0, 0, []), some (.iconst 4, 1, 0, 0, []), some (.imul, 1, 0, 0, []), some (.iload 4, 2, 0, 0, []), none, some (.invokestatic 27, 3, 202, 1, []), none, none, some (.iadd, 1, 0, 0, []), some (.iaload, 1, 0, 0, []), some (.iload_n 3, 1, 0, 0, []), some (.iadd, 1, 0, 0, []), some (.invokevirtual 31, 3, 19, 2, []), none, none, some (.goto 21, 3, 78, 0, []), none, none, some (.aload_n 0, 1, 0, 0, []), some (.getfield 9, 3, 1, 1, []), none, none, some (.iload 5, 2, 0, 0, []), none, some (.iaload, 1, 0, 0, []), some (.aload_n 0, 1, 0, 0, []), some (.getfield 9, 3, 1, 1, []), none, none, some (.iload 4, 2, 0, 0, []), none, some (.iload 5, 2, 0, 0, []), none, some (.ixor, 1, 0, 0, []), some (.iaload, 1, 0, 0, []), some (.ior, 1, 0, 0, []), some (.iastore, 1, 0, 0, []), some (.iinc 4 1, 3, 0, 0, []), none, none, some (.goto (-79), 3, 3, 0, []), none, none, some (.return_, 1, 0, 0, [])]
def kX1_placeOf : List (Option zi_I) := [some (.iload_n 0, 1, 0, 0, []), some (.iconst 1, 1, 0, 0, []), some (.isub, 1, 0, 0, []), some (.invokestatic 35, 3, 2800, 1, []), none, none, some (.ireturn, 1, 0, 0, [])]
def kX1_canSing : List (Option zi_I) := [some (.iconst 1, 1, 0, 0, []), some (.istore_n 3, 1, 0, 0, []), some (.iload_n 3, 1, 0, 0, []), some (.bipush 15, 2, 0, 0, []), none, some (.if_icmp .gt 49, 3, 54, 0, []), none, none, some (.iload_n 3, 1, 0, 0, []), some (.iload_n 1, 1, 0, 0, []), some (.iconst (-1), 1, 0, 0, []), some (.ixor, 1, 0, 0, []), some (.iand, 1, 0, 0, []), some (.ifCond .ne 7, 3, 20, 0, []), none, none, some (.iconst 1, 1, 0, 0, []), some (.goto 4, 3, 21, 0, []), none, none, some (.iconst 0, 1, 0, 0, []), some (.istore 4, 2, 0, 0, []), none, some (.iload 4, 2, 0, 0, []), none, some (.ifCond .eq 23, 3, 48, 0, []), none, none, some (.aload_n 0, 1, 0, 0, []), some (.getfield 9, 3, 1, 1, []), none, none, some (.iload_n 3, 1, 0, 0, []), some (.iaload, 1, 0, 0, []), some (.iload_n 2, 1, 0, 0, []), some (.iand, 1, 0, 0, []), some (.invokestatic 35, 3, 2800, 1, []), none, none, some (.iload_n 3, 1, 0, 0, []), some (.invokestatic 35, 3, 2800, 1, []), none, none, some (.if_icmp .ge 5, 3, 48, 0, []), none, none, some (.iconst 0, 1, 0, 0, []), some (.ireturn, 1, 0, 0, []), some (.iinc 3 1, 3, 0, 0, []), none, none, some (.goto (-49), 3, 2, 0, []), none, none, some (.iconst 1, 1, 0, 0, []), some (.ireturn, 1, 0, 0, [])]
def kX1_settle : List (Option zi_I) := [some (.aload_n 0, 1, 0, 0, []), some (.bipush 15, 2, 0, 0, []), none, some (.iload_n 1, 1, 0, 0, []), some (.invokevirtual 40, 3, 203, 2, []), none, none, some (.ifCond .ne 5, 3, 12, 0, []), none, none, some (.iconst 0, 1, 0, 0, []), some (.ireturn, 1, 0, 0, []), some (.iload_n 1, 1, 0, 0, []), some (.istore_n 2, 1, 0, 0, []), some (.bipush 15, 2, 0, 0, []), none, some (.istore_n 3, 1, 0, 0, []), some (.iconst 0, 1, 0, 0, []), some (.istore 4, 2, 0, 0, []), none, some (.iload 4, 2, 0, 0, []), none, some (.iconst 4, 1, 0, 0, []), some (.if_icmp .ge 47, 3, 70, 0, []), none, none, some (.iload_n 3, 1, 0, 0, []), some (.iconst 1, 1, 0, 0, []), some (.iload 4, 2, 0, 0, []), none, some (.ishl, 1, 0, 0, []), some (.iconst (-1), 1, 0, 0, []), some (.ixor, 1, 0, 0, []), some (.iand, 1, 0, 0, []), some (.istore_n 3, 1, 0, 0, []), some (.aload_n 0, 1, 0, 0, []), some (.getfield 15, 3, 1, 2, []), none, none, some (.iload 4, 2, 0, 0, []), none, some (.aload_n 0, 1, 0, 0, []), some (.iload 4, 2, 0, 0, []), none, some (.iload_n 3, 1, 0, 0, []), some (.iload_n 2, 1, 0, 0, []), some (.invokevirtual 44, 3, 205, 3, []), none, none, some (.iastore, 1, 0, 0, []), some (.iload_n 2, 1, 0, 0, []), some (.iconst 1, 1, 0, 0, []), some (.aload_n 0, 1, 0, 0, []), some (.getfield 15, 3, 1, 2, []), none, none, some (.iload 4, 2, 0, 0, []), none, some (.iaload, 1, 0, 0, []), some (.ishl, 1, 0, 0, []), some (.iconst (-1), 1, 0, 0, []), some (.ixor, 1, 0, 0, []), some (.iand, 1, 0, 0, []), some (.istore_n 2, 1, 0, 0, []), some (.iinc 4 1, 3, 0, 0, []), none, none, some (.goto (-47), 3, 20, 0, []), none, none, some (.iconst 1, 1, 0, 0, []), some (.ireturn, 1, 0, 0, [])]
def kX1_firstFor : List (Option zi_I) := [some (.aload_n 0, 1, 0, 0, []), some (.getfield 9, 3, 1, 1, []), none, none, some (.iconst 1, 1, 0, 0, []), some (.iload_n 1, 1, 0, 0, []), some (.ishl, 1, 0, 0, []), some (.iaload, 1, 0, 0, []), some (.iload_n 3, 1, 0, 0, []), some (.iand, 1, 0, 0, []), some (.istore 4, 2, 0, 0, []), none, some (.iconst 0, 1, 0, 0, []), some (.istore 5, 2, 0, 0, []), none, some (.iload 5, 2, 0, 0, []), none, some (.bipush 8, 2, 0, 0, []), none, some (.if_icmp .ge 39, 3, 58, 0, []), none, none, some (.iload 4, 2, 0, 0, []), none, some (.iload 5, 2, 0, 0, []), none, some (.ishr, 1, 0, 0, []), some (.iconst 1, 1, 0, 0, []), some (.iand, 1, 0, 0, []), some (.iconst 1, 1, 0, 0, []), some (.if_icmp .ne 22, 3, 52, 0, []), none, none, some (.aload_n 0, 1, 0, 0, []), some (.iload_n 2, 1, 0, 0, []), some (.iload_n 3, 1, 0, 0, []), some (.iconst 1, 1, 0, 0, []), some (.iload 5, 2, 0, 0, []), none, some (.ishl, 1, 0, 0, []), some (.iconst (-1), 1, 0, 0, []), some (.ixor, 1, 0, 0, []), some (.iand, 1, 0, 0, []), some (.invokevirtual 40, 3, 203, 2, []), none, none, some (.ifCond .eq 6, 3, 52, 0, []), none, none, some (.iload 5, 2, 0, 0, []), none, some (.ireturn, 1, 0, 0, []), some (.iinc 5 1, 3, 0, 0, []), none, none, some (.goto (-40), 3, 15, 0, []), none, none, some (.iconst 0, 1, 0, 0, []), some (.ireturn, 1, 0, 0, [])]
def kX1_mostNotes : List (Option zi_I) := [some (.iconst 0, 1, 0, 0, []), some (.istore_n 2, 1, 0, 0, []), some (.iconst 1, 1, 0, 0, []), some (.istore_n 3, 1, 0, 0, []), some (.iload_n 3, 1, 0, 0, []), some (.bipush 15, 2, 0, 0, []), none, some (.if_icmp .gt 31, 3, 38, 0, []), none, none, some (.iload_n 3, 1, 0, 0, []), some (.invokestatic 35, 3, 2800, 1, []), none, none, some (.iload_n 2, 1, 0, 0, []), some (.invokestatic 35, 3, 2800, 1, []), none, none, some (.if_icmp .le 14, 3, 32, 0, []), none, none, some (.aload_n 0, 1, 0, 0, []), some (.iload_n 3, 1, 0, 0, []), some (.iload_n 1, 1, 0, 0, []), some (.invokevirtual 40, 3, 203, 2, []), none, none, some (.ifCond .eq 5, 3, 32, 0, []), none, none, some (.iload_n 3, 1, 0, 0, []), some (.istore_n 2, 1, 0, 0, []), some (.iinc 3 1, 3, 0, 0, []), none, none, some (.goto (-31), 3, 4, 0, []), none, none, some (.iload_n 2, 1, 0, 0, []), some (.ireturn, 1, 0, 0, [])]
def kX1_fewestMissed : List (Option zi_I) := [some (.iload_n 1, 1, 0, 0, []), some (.istore_n 2, 1, 0, 0, []), some (.iconst 0, 1, 0, 0, []), some (.istore_n 3, 1, 0, 0, []), some (.iload_n 3, 1, 0, 0, []), some (.sipush 256, 3, 0, 0, []), none, none, some (.if_icmp .ge 56, 3, 64, 0, []), none, none, some (.iload_n 3, 1, 0, 0, []), some (.invokestatic 35, 3, 2800, 1, []), none, none, some (.iload_n 2, 1, 0, 0, []), some (.invokestatic 35, 3, 2800, 1, []), none, none, some (.if_icmp .ge 7, 3, 26, 0, []), none, none, some (.iconst 1, 1, 0, 0, []), some (.goto 4, 3, 27, 0, []), none, none, some (.iconst 0, 1, 0, 0, []), some (.istore 4, 2, 0, 0, []), none, some (.iload 4, 2, 0, 0, []), none, some (.ifCond .eq 27, 3, 58, 0, []), none, none, some (.iload_n 3, 1, 0, 0, []), some (.iload_n 1, 1, 0, 0, []), some (.iconst (-1), 1, 0, 0, []), some (.ixor, 1, 0, 0, []), some (.iand, 1, 0, 0, []), some (.ifCond .ne 19, 3, 58, 0, []), none, none, some (.aload_n 0, 1, 0, 0, []), some (.bipush 15, 2, 0, 0, []), none, some (.iload_n 1, 1, 0, 0, []), some (.iload_n 3, 1, 0, 0, []), some (.iconst (-1), 1, 0, 0, []), some (.ixor, 1, 0, 0, []), some (.iand, 1, 0, 0, []), some (.invokevirtual 40, 3, 203, 2, []), none, none, some (.ifCond .ne 5, 3, 58, 0, []), none, none, some (.iload_n 3, 1, 0, 0, []), some (.istore_n 2, 1, 0, 0, []), some (.iinc 3 1, 3, 0, 0, []), none, none, some (.goto (-57), 3, 4, 0, []), none, none, some (.iload_n 2, 1, 0, 0, []), some (.ireturn, 1, 0, 0, [])]
def kX2_init : List (Option zi_I) := [some (.aload_n 0, 1, 0, 0, []), some (.invokespecial 3, 3, 9000, 0, []), none, none, some (.aload_n 0, 1, 0, 0, []), some (.sipush 256, 3, 0, 0, []), none, none, some (.newarray .boolean, 2, 0, 0, []), none, some (.putfield 11, 3, 2, 2, []), none, none, some (.aload_n 0, 1, 0, 0, []), some (.aload_n 1, 1, 0, 0, []), some (.putfield 15, 3, 2, 0, []), none, none, some (.aload_n 0, 1, 0, 0, []), some (.aload_n 2, 1, 0, 0, []), some (.putfield 19, 3, 2, 1, []), none, none, some (.return_, 1, 0, 0, [])]
def kX2_begin : List (Option zi_I) := [some (.iconst 0, 1, 0, 0, []), some (.istore_n 1, 1, 0, 0, []), some (.iload_n 1, 1, 0, 0, []), some (.sipush 256, 3, 0, 0, []), none, none, some (.if_icmp .ge 16, 3, 22, 0, []), none, none, some (.aload_n 0, 1, 0, 0, []), some (.getfield 11, 3, 2, 2, []), none, none, some (.iload_n 1, 1, 0, 0, []), some (.iconst 1, 1, 0, 0, []), some (.bastore, 1, 0, 0, []), some (.iinc 1 1, 3, 0, 0, []), none, none, some (.goto (-17), 3, 2, 0, []), none, none, some (.return_, 1, 0, 0, [])]
def kX2_mustSing : List (Option zi_I) := [some (.aload_n 0, 1, 0, 0, []), some (.getfield 19, 3, 2, 1, []), none, none, some (.aload_n 1, 1, 0, 0, []), some (.iload_n 2, 1, 0, 0, []), some (.iconst 0, 1, 0, 0, []), some (.invokevirtual 23, 3, 201, 3, []), none, none, some (.iconst 0, 1, 0, 0, []), some (.istore 5, 2, 0, 0, []), none, some (.iload 5, 2, 0, 0, []), none, some (.sipush 256, 3, 0, 0, []), none, none, some (.if_icmp .ge 50, 3, 68, 0, []), none, none, some (.aload_n 0, 1, 0, 0, []), some (.getfield 11, 3, 2, 2, []), none, none, some (.iload 5, 2, 0, 0, []), none, some (.aload_n 0, 1, 0, 0, []), some (.getfield 11, 3, 2, 2, []), none, none, some (.iload 5, 2, 0, 0, []), none, some (.baload, 1, 0, 0, []), some (.ifCond .eq 26, 3, 60, 0, []), none, none, some (.aload_n 0, 1, 0, 0, []), some (.getfield 19, 3, 2, 1, []), none, none, some (.bipush 15, 2, 0, 0, []), none, some (.iload_n 3, 1, 0, 0, []), some (.iload 5, 2, 0, 0, []), none, some (.iload 4, 2, 0, 0, []), none, some (.iand, 1, 0, 0, []), some (.ior, 1, 0, 0, []), some (.invokevirtual 29, 3, 203, 2, []), none, none, some (.ifCond .eq 7, 3, 60, 0, []), none, none, some (.iconst 1, 1, 0, 0, []), some (.goto 4, 3, 61, 0, []), none, none, some (.iconst 0, 1, 0, 0, []), some (.bastore, 1, 0, 0, []), some (.iinc 5 1, 3, 0, 0, []), none, none, some (.goto (-52), 3, 13, 0, []), none, none, some (.return_, 1, 0, 0, [])]
def kX2_cheapest : List (Option zi_I) := [some (.iconst (-1), 1, 0, 0, []), some (.istore_n 2, 1, 0, 0, []), some (.iconst 0, 1, 0, 0, []), some (.istore_n 3, 1, 0, 0, []), some (.iload_n 3, 1, 0, 0, []), some (.sipush 256, 3, 0, 0, []), none, none, some (.if_icmp .ge 41, 3, 49, 0, []), none, none, some (.aload_n 0, 1, 0, 0, []), some (.getfield 11, 3, 2, 2, []), none, none, some (.iload_n 3, 1, 0, 0, []), some (.baload, 1, 0, 0, []), some (.ifCond .eq 26, 3, 43, 0, []), none, none, some (.iload_n 3, 1, 0, 0, []), some (.iload_n 1, 1, 0, 0, []), some (.iconst (-1), 1, 0, 0, []), some (.ixor, 1, 0, 0, []), some (.iand, 1, 0, 0, []), some (.ifCond .ne 18, 3, 43, 0, []), none, none, some (.iload_n 2, 1, 0, 0, []), some (.ifCond .lt 12, 3, 41, 0, []), none, none, some (.aload_n 0, 1, 0, 0, []), some (.iload_n 3, 1, 0, 0, []), some (.iload_n 2, 1, 0, 0, []), some (.invokevirtual 33, 3, 404, 2, []), none, none, some (.ifCond .eq 5, 3, 43, 0, []), none, none, some (.iload_n 3, 1, 0, 0, []), some (.istore_n 2, 1, 0, 0, []), some (.iinc 3 1, 3, 0, 0, []), none, none, some (.goto (-42), 3, 4, 0, []), none, none, some (.iload_n 2, 1, 0, 0, []), some (.ireturn, 1, 0, 0, [])]
def kX2_isBetter : List (Option zi_I) := [some (.aload_n 0, 1, 0, 0, []), some (.getfield 15, 3, 2, 0, []), none, none, some (.iload_n 1, 1, 0, 0, []), some (.invokevirtual 36, 3, 18, 1, []), none, none, some (.istore_n 3, 1, 0, 0, []), some (.aload_n 0, 1, 0, 0, []), some (.getfield 15, 3, 2, 0, []), none, none, some (.iload_n 2, 1, 0, 0, []), some (.invokevirtual 36, 3, 18, 1, []), none, none, some (.istore 4, 2, 0, 0, []), none, some (.iload_n 3, 1, 0, 0, []), some (.iload 4, 2, 0, 0, []), none, some (.if_icmp .lt 20, 3, 42, 0, []), none, none, some (.iload_n 3, 1, 0, 0, []), some (.iload 4, 2, 0, 0, []), none, some (.if_icmp .ne 18, 3, 46, 0, []), none, none, some (.iload_n 1, 1, 0, 0, []), some (.invokestatic 42, 3, 2800, 1, []), none, none, some (.iload_n 2, 1, 0, 0, []), some (.invokestatic 42, 3, 2800, 1, []), none, none, some (.if_icmp .ge 7, 3, 46, 0, []), none, none, some (.iconst 1, 1, 0, 0, []), some (.goto 4, 3, 47, 0, []), none, none, some (.iconst 0, 1, 0, 0, []), some (.ireturn, 1, 0, 0, [])]
def kX3_init : List (Option zi_I) := [some (.aload_n 0, 1, 0, 0, []), some (.invokespecial 3, 3, 9000, 0, []), none, none, some (.aload_n 0, 1, 0, 0, []), some (.bipush 20, 2, 0, 0, []), none, some (.putfield 9, 3, 3, 1, []), none, none, some (.aload_n 0, 1, 0, 0, []), some (.bipush 8, 2, 0, 0, []), none, some (.newarray .int, 2, 0, 0, []), none, some (.putfield 15, 3, 3, 3, []), none, none, some (.aload_n 0, 1, 0, 0, []), some (.bipush 8, 2, 0, 0, []), none, some (.newarray .int, 2, 0, 0, []), none, some (.putfield 19, 3, 3, 4, []), none, none, some (.aload_n 0, 1, 0, 0, []), some (.bipush 8, 2, 0, 0, []), none, some (.newarray .int, 2, 0, 0, []), none, some (.putfield 22, 3, 3, 5, []), none, none, some (.aload_n 0, 1, 0, 0, []), some (.iconst 4, 1, 0, 0, []), some (.newarray .int, 2, 0, 0, []), none, some (.putfield 25, 3, 3, 6, []), none, none, some (.aload_n 0, 1, 0, 0, []), some (.iconst 4, 1, 0, 0, []), some (.newarray .int, 2, 0, 0, []), none, some (.putfield 28, 3, 3, 7, []), none, none, some (.return_, 1, 0, 0, [])]
def kX3_copy : List (Option zi_I) := [some (.aload_n 0, 1, 0, 0, []), some (.aload_n 1, 1, 0, 0, []), some (.getfield 31, 3, 3, 0, []), none, none, some (.putfield 31, 3, 3, 0, []), none, none, some (.aload_n 0, 1, 0, 0, []), some (.aload_n 1, 1, 0, 0, []), some (.getfield 9, 3, 3, 1, []), none, none, some (.putfield 9, 3, 3, 1, []), none, none, some (.aload_n 0, 1, 0, 0, []), some (.aload_n 1, 1, 0, 0, []), some (.getfield 34, 3, 3, 2, []), none, none, some (.putfield 34, 3, 3, 2, []), none, none, some (.aload_n 1, 1, 0, 0, []), some (.getfield 15, 3, 3, 3, []), none, none, some (.iconst 0, 1, 0, 0, []), some (.aload_n 0, 1, 0, 0, []), some (.getfield 15, 3, 3, 3, []), none, none, some (.iconst 0, 1, 0, 0, []), some (.bipush 8, 2, 0, 0, []), none, some (.invokestatic 37, 3, 9003, 0, []), none, none, some (.aload_n 1, 1, 0, 0, []), some (.getfield 19, 3, 3, 4, []), none, none, some (.iconst 0, 1, 0, 0, []), some (.aload_n 0, 1, 0, 0, []), some (.getfield 19, 3, 3, 4, []), none, none, some (.iconst 0, 1, 0, 0, []), some (.bipush 8, 2, 0, 0, []), none, some (.invokestatic 37, 3, 9003, 0, []), none, none, some (.aload_n 1, 1, 0, 0, []), some (.getfield 22, 3, 3, 5, []), none, none, some (.iconst 0, 1, 0, 0, []), some (.aload_n 0, 1, 0, 0, []), some (.getfield 22, 3, 3, 5, []), none, none, some (.iconst 0, 1, 0, 0, []), some (.bipush 8, 2, 0, 0, []), none, some (.invokestatic 37, 3, 9003, 0, []), none, none, some (.aload_n 1, 1, 0, 0, []), some (.getfield 25, 3, 3, 6, []), none, none, some (.iconst 0, 1, 0, 0, []), some (.aload_n 0, 1, 0, 0, []), some (.getfield 25, 3, 3, 6, []), none, none, some (.iconst 0, 1, 0, 0, []), some (.iconst 4, 1, 0, 0, []), some (.invokestatic 37, 3, 9003, 0, []), none, none, some (.aload_n 1, 1, 0, 0, []), some (.getfield 28, 3, 3, 7, []), none, none, some (.iconst 0, 1, 0, 0, []), some (.aload_n 0, 1, 0, 0, []), some (.getfield 28, 3, 3, 7, []), none, none, some (.iconst 0, 1, 0, 0, []), some (.iconst 4, 1, 0, 0, []), some (.invokestatic 37, 3, 9003, 0, []), none, none, some (.return_, 1, 0, 0, [])]
def kX3_levelOf : List (Option zi_I) := [some (.aload_n 0, 1, 0, 0, []), some (.getfield 31, 3, 3, 0, []), none, none, some (.iload_n 1, 1, 0, 0, []), some (.ishr, 1, 0, 0, []), some (.iconst 1, 1, 0, 0, []), some (.iand, 1, 0, 0, []), some (.ireturn, 1, 0, 0, [])]
def kX3_setLevel : List (Option zi_I) := [some (.aload_n 0, 1, 0, 0, []), some (.aload_n 0, 1, 0, 0, []), some (.getfield 31, 3, 3, 0, []), none, none, some (.iconst 1, 1, 0, 0, []), some (.iload_n 1, 1, 0, 0, []), some (.ishl, 1, 0, 0, []), some (.iconst (-1), 1, 0, 0, []), some (.ixor, 1, 0, 0, []), some (.iand, 1, 0, 0, []), some (.iload_n 2, 1, 0, 0, []), some (.iload_n 1, 1, 0, 0, []), some (.ishl, 1, 0, 0, []), some (.ior, 1, 0, 0, []), some (.putfield 31, 3, 3, 0, []), none, none, some (.return_, 1, 0, 0, [])]
def kX3_whereIs : List (Option zi_I) := [some (.aload_n 0, 1, 0, 0, []), some (.getfield 19, 3, 3, 4, []), none, none, some (.iload_n 1, 1, 0, 0, []), some (.iaload, 1, 0, 0, []), some (.istore_n 2, 1, 0, 0, []), some (.iload_n 2, 1, 0, 0, []), some (.ifCond .lt 17, 3, 25, 0, []), none, none, some (.iload_n 2, 1, 0, 0, []), some (.iconst 4, 1, 0, 0, []), some (.if_icmp .ge 12, 3, 25, 0, []), none, none, some (.aload_n 0, 1, 0, 0, []), some (.getfield 25, 3, 3, 6, []), none, none, some (.iload_n 2, 1, 0, 0, []), some (.iaload, 1, 0, 0, []), some (.goto 9, 3, 31, 0, []), none, none, some (.aload_n 0, 1, 0, 0, []), some (.getfield 15, 3, 3, 3, []), none, none, some (.iload_n 1, 1, 0, 0, []), some (.iaload, 1, 0, 0, []), some (.ireturn, 1, 0, 0, [])]
def kX3_letGoBy : List (Option zi_I) := [some (.aload_n 0, 1, 0, 0, []), some (.getfield 34, 3, 3, 2, []), none, none, some (.iload_n 1, 1, 0, 0, []), some (.iadd, 1, 0, 0, []), some (.bipush 10, 2, 0, 0, []), none, some (.idiv, 1, 0, 0, []), some (.aload_n 0, 1, 0, 0, []), some (.getfield 34, 3, 3, 2, []), none, none, some (.bipush 10, 2, 0, 0, []), none, some (.idiv, 1, 0, 0, []), some (.isub, 1, 0, 0, []), some (.istore_n 2, 1, 0, 0, []), some (.aload_n 0, 1, 0, 0, []), some (.dup, 1, 0, 0, []), some (.getfield 34, 3, 3, 2, []), none, none, some (.iload_n 1, 1, 0, 0, []), some (.iadd, 1, 0, 0, []), some (.putfield 34, 3, 3, 2, []), none, none, some (.iconst 0, 1, 0, 0, []), some (.istore_n 3, 1, 0, 0, []), some (.iload_n 3, 1, 0, 0, []), some (.bipush 8, 2, 0, 0, []), none, some (.if_icmp .ge 27, 3, 60, 0, []), none, none, some (.aload_n 0, 1, 0, 0, []), some (.getfield 22, 3, 3, 5, []), none, none, some (.iload_n 3, 1, 0, 0, []), some (.iconst 0, 1, 0, 0, []), some (.aload_n 0, 1, 0, 0, []), some (.getfield 22, 3, 3, 5, []), none, none, some (.iload_n 3, 1, 0, 0, []), some (.iaload, 1, 0, 0, []), some (.iload_n 2, 1, 0, 0, []), some (.isub, 1, 0, 0, []), some (.invokestatic 43, 3, 9001, 0, []), none, none, some (.iastore, 1, 0, 0, []), some (.iinc 3 1, 3, 0, 0, []), none, none, some (.goto (-27), 3, 30, 0, []), none, none, some (.return_, 1, 0, 0, [])]
def kX4_init : List (Option zi_I) := [some (.aload_n 0, 1, 0, 0, []), some (.invokespecial 3, 3, 9000, 0, []), none, none, some (.aload_n 0, 1, 0, 0, []), some (.bipush 26, 2, 0, 0, []), none, some (.newarray .int, 2, 0, 0, []), none, some (.putfield 9, 3, 4, 1, []), none, none, some (.aload_n 0, 1, 0, 0, []), some (.aload_n 1, 1, 0, 0, []), some (.putfield 15, 3, 4, 0, []), none, none, some (.return_, 1, 0, 0, [])]
def kX4_size : List (Option zi_I) := [some (.aload_n 0, 1, 0, 0, []), some (.getfield 19, 3, 4, 4, []), none, none, some (.ireturn, 1, 0, 0, [])]
def kX4_clear : List (Option zi_I) := [some (.aload_n 0, 1, 0, 0, []), some (.iconst 0, 1, 0, 0, []), some (.putfield 19, 3, 4, 4, []), none, none, some (.aload_n 0, 1, 0, 0, []), some (.iconst 0, 1, 0, 0, []), some (.putfield 23, 3, 4, 2, []), none, none, some (.aload_n 0, 1, 0, 0, []), some (.iconst 0, 1, 0, 0, []), some (.putfield 26, 3, 4, 3, []), none, none, some (.return_, 1, 0, 0, [])]
def kX4_note : List (Option zi_I) := [some (.aload_n 0, 1, 0, 0, []), some (.getfield 19, 3, 4, 4, []), none, none, some (.bipush 12, 2, 0, 0, []), none, some (.if_icmp .lt 5, 3, 11, 0, []), none, none, some (.iconst 0, 1, 0, 0, []), some (.ireturn, 1, 0, 0, []), some (.aload_n 0, 1, 0, 0, []), some (.dup, 1, 0, 0, []), some (.getfield 19, 3, 4, 4, []), none, none, some (.iconst 1, 1, 0, 0, []), some (.iadd, 1, 0, 0, []), some (.putfield 19, 3, 4, 4, []), none, none, some (.iload_n 2, 1, 0, 0, []), some (.iconst 1, 1, 0, 0, []), some (.if_icmp .ne 18, 3, 41, 0, []), none, none, some (.aload_n 0, 1, 0, 0, []), some (.dup, 1, 0, 0, []), some (.getfield 23, 3, 4, 2, []), none, none, some (.iconst 1, 1, 0, 0, []), some (.iload_n 1, 1, 0, 0, []), some (.ishl, 1, 0, 0, []), some (.ior, 1, 0, 0, []), some (.putfield 23, 3, 4, 2, []), none, none, some (.goto 15, 3, 53, 0, []), none, none, some (.aload_n 0, 1, 0, 0, []), some (.dup, 1, 0, 0, []), some (.getfield 26, 3, 4, 3, []), none, none, some (.iconst 1, 1, 0, 0, []), some (.iload_n 1, 1, 0, 0, []), some (.ishl, 1, 0, 0, []), some (.ior, 1, 0, 0, []), some (.putfield 26, 3, 4, 3, []), none, none, some (.iconst 1, 1, 0, 0, []), some (.ireturn, 1, 0, 0, [])]
def kX4_hasInRange : List (Option zi_I) := [some (.aload_n 0, 1, 0, 0, []), some (.getfield 15, 3, 4, 0, []), none, none, some (.getfield 29, 3, 0, 3, []), none, none, some (.iload_n 1, 1, 0, 0, []), some (.iaload, 1, 0, 0, []), some (.iload_n 2, 1, 0, 0, []), some (.if_icmp .gt 20, 3, 30, 0, []), none, none, some (.iload_n 2, 1, 0, 0, []), some (.aload_n 0, 1, 0, 0, []), some (.getfield 15, 3, 4, 0, []), none, none, some (.getfield 34, 3, 0, 4, []), none, none, some (.iload_n 1, 1, 0, 0, []), some (.iaload, 1, 0, 0, []), some (.if_icmp .gt 7, 3, 30, 0, []), none, none, some (.iconst 1, 1, 0, 0, []), some (.goto 4, 3, 31, 0, []), none, none, some (.iconst 0, 1, 0, 0, []), some (.ireturn, 1, 0, 0, [])]
def kX4_fitting : List (Option zi_I) := [some (.iconst 0, 1, 0, 0, []), some (.istore_n 1, 1, 0, 0, []), some (.iconst 0, 1, 0, 0, []), some (.istore_n 2, 1, 0, 0, []), some (.iload_n 2, 1, 0, 0, []), some (.aload_n 0, 1, 0, 0, []), some (.getfield 15, 3, 4, 0, []), none, none, some (.getfield 37, 3, 0, 8, []), none, none, some (.if_icmp .ge 77, 3, 89, 0, []), none, none, some (.iconst 1, 1, 0, 0, []), some (.aload_n 0, 1, 0, 0, []), some (.getfield 15, 3, 4, 0, []), none, none, some (.getfield 34, 3, 0, 4, []), none, none, some (.iload_n 2, 1, 0, 0, []), some (.iaload, 1, 0, 0, []), some (.iconst 1, 1, 0, 0, []), some (.iadd, 1, 0, 0, []), some (.ishl, 1, 0, 0, []), some (.iconst 1, 1, 0, 0, []), some (.aload_n 0, 1, 0, 0, []), some (.getfield 15, 3, 4, 0, []), none, none, some (.getfield 29, 3, 0, 3, []), none, none, some (.iload_n 2, 1, 0, 0, []), some (.iaload, 1, 0, 0, []), some (.ishl, 1, 0, 0, []), some (.isub, 1, 0, 0, []), some (.istore_n 3, 1, 0, 0, []), some (.aload_n 0, 1, 0, 0, []), some (.getfield 23, 3, 4, 2, []), none, none, some (.iload_n 3, 1, 0, 0, []), some (.iconst (-1), 1, 0, 0, []), some (.ixor, 1, 0, 0, []), some (.iand, 1, 0, 0, []), some (.ifCond .ne 16, 3, 65, 0, []), none, none, some (.aload_n 0, 1, 0, 0, []), some (.getfield 26, 3, 4, 3, []), none, none, some (.iload_n 3, 1, 0, 0, []), some (.iand, 1, 0, 0, []), some (.ifCond .ne 7, 3, 65, 0, []), none, none, some (.iconst 1, 1, 0, 0, []), some (.goto 4, 3, 66, 0, []), none, none, some (.iconst 0, 1, 0, 0, []), some (.istore 4, 2, 0, 0, []), none, some (.iload_n 1, 1, 0, 0, []), some (.iload 4, 2, 0, 0, []), none, some (.ifCond .eq 9, 3, 80, 0, []), none, none, some (.iconst 1, 1, 0, 0, []), some (.iload_n 2, 1, 0, 0, []), some (.ishl, 1, 0, 0, []), some (.goto 4, 3, 81, 0, []), none, none, some (.iconst 0, 1, 0, 0, []), some (.ior, 1, 0, 0, []), some (.istore_n 1, 1, 0, 0, []), some (.iinc 2 1, 3, 0, 0, []), none, none, some (.goto (-82), 3, 4, 0, []), none, none, some (.iload_n 1, 1, 0, 0, []), some (.ireturn, 1, 0, 0, [])]
def kX4_leftAtMost : List (Option zi_I) := [some (.iconst 0, 1, 0, 0, []), some (.istore_n 3, 1, 0, 0, []), some (.iconst 0, 1, 0, 0, []), some (.istore 4, 2, 0, 0, []), none, some (.iconst 0, 1, 0, 0, []), some (.istore 5, 2, 0, 0, []), none, some (.iload 5, 2, 0, 0, []), none, some (.aload_n 0, 1, 0, 0, []), some (.getfield 15, 3, 4, 0, []), none, none, some (.getfield 37, 3, 0, 8, []), none, none, some (.if_icmp .ge 42, 3, 59, 0, []), none, none, some (.iload_n 1, 1, 0, 0, []), some (.iload 5, 2, 0, 0, []), none, some (.ishr, 1, 0, 0, []), some (.iconst 1, 1, 0, 0, []), some (.iand, 1, 0, 0, []), some (.istore 6, 2, 0, 0, []), none, some (.aload_n 0, 1, 0, 0, []), some (.iload 5, 2, 0, 0, []), none, some (.iload_n 2, 1, 0, 0, []), some (.invokevirtual 40, 3, 804, 2, []), none, none, some (.ifCond .eq 11, 3, 46, 0, []), none, none, some (.iload_n 3, 1, 0, 0, []), some (.iload 6, 2, 0, 0, []), none, some (.iadd, 1, 0, 0, []), some (.istore_n 3, 1, 0, 0, []), some (.goto 10, 3, 53, 0, []), none, none, some (.iload 4, 2, 0, 0, []), none, some (.iload 6, 2, 0, 0, []), none, some (.iadd, 1, 0, 0, []), some (.istore 4, 2, 0, 0, []), none, some (.iinc 5 1, 3, 0, 0, []), none, none, some (.goto (-48), 3, 8, 0, []), none, none, some (.iload_n 3, 1, 0, 0, []), some (.iload 4, 2, 0, 0, []), none, some (.invokestatic 44, 3, 9001, 0, []), none, none, some (.ireturn, 1, 0, 0, [])]
def kX4_parting : List (Option zi_I) := [some (.aload_n 0, 1, 0, 0, []), some (.aload_n 0, 1, 0, 0, []), some (.invokevirtual 50, 3, 805, 0, []), none, none, some (.invokevirtual 54, 3, 808, 1, []), none, none, some (.aload_n 0, 1, 0, 0, []), some (.invokevirtual 58, 3, 809, 0, []), none, none, some (.ifCond .ne 5, 3, 17, 0, []), none, none, some (.iconst (-1), 1, 0, 0, []), some (.ireturn, 1, 0, 0, []), some (.iconst 0, 1, 0, 0, []), some (.istore_n 1, 1, 0, 0, []), some (.iload_n 1, 1, 0, 0, []), some (.iconst 4, 1, 0, 0, []), some (.if_icmp .gt 24, 3, 45, 0, []), none, none, some (.aload_n 0, 1, 0, 0, []), some (.iload_n 1, 1, 0, 0, []), some (.bipush 26, 2, 0, 0, []), none, some (.iconst 0, 1, 0, 0, []), some (.invokevirtual 62, 3, 811, 3, []), none, none, some (.istore_n 2, 1, 0, 0, []), some (.iload_n 2, 1, 0, 0, []), some (.ifCond .lt 5, 3, 39, 0, []), none, none, some (.iload_n 2, 1, 0, 0, []), some (.ireturn, 1, 0, 0, []), some (.iinc 1 1, 3, 0, 0, []), none, none, some (.goto (-23), 3, 19, 0, []), none, none, some (.iconst (-1), 1, 0, 0, []), some (.ireturn, 1, 0, 0, [])]
def kX4_findPairs : List (Option zi_I) := [some (.aload_n 0, 1, 0, 0, []), some (.iconst 0, 1, 0, 0, []), some (.putfield 66, 3, 4, 5, []), none, none, some (.iconst 0, 1, 0, 0, []), some (.istore_n 2, 1, 0, 0, []), some (.iload_n 2, 1, 0, 0, []), some (.bipush 26, 2, 0, 0, []), none, some (.if_icmp .ge 16, 3, 26, 0, []), none, none, some (.aload_n 0, 1, 0, 0, []), some (.getfield 9, 3, 4, 1, []), none, none, some (.iload_n 2, 1, 0, 0, []), some (.iconst 0, 1, 0, 0, []), some (.iastore, 1, 0, 0, []), some (.iinc 2 1, 3, 0, 0, []), none, none, some (.goto (-16), 3, 7, 0, []), none, none, some (.iconst 1, 1, 0, 0, []), some (.istore_n 2, 1, 0, 0, []), some (.iconst 0, 1, 0, 0, []), some (.istore_n 3, 1, 0, 0, []), some (.iload_n 3, 1, 0, 0, []), some (.aload_n 0, 1, 0, 0, []), some (.getfield 15, 3, 4, 0, []), none, none, some (.getfield 37, 3, 0, 8, []), none, none, some (.if_icmp .ge 68, 3, 106, 0, []), none, none, some (.iload_n 3, 1, 0, 0, []), some (.iconst 1, 1, 0, 0, []), some (.iadd, 1, 0, 0, []), some (.istore 4, 2, 0, 0, []), none, some (.iload 4, 2, 0, 0, []), none, some (.aload_n 0, 1, 0, 0, []), some (.getfield 15, 3, 4, 0, []), none, none, some (.getfield 37, 3, 0, 8, []), none, none, some (.if_icmp .ge 45, 3, 100, 0, []), none, none, some (.iload_n 1, 1, 0, 0, []), some (.iload_n 3, 1, 0, 0, []), some (.ishr, 1, 0, 0, []), some (.iload_n 1, 1, 0, 0, []), some (.iload 4, 2, 0, 0, []), none, some (.ishr, 1, 0, 0, []), some (.iand, 1, 0, 0, []), some (.iconst 1, 1, 0, 0, []), some (.iand, 1, 0, 0, []), some (.iconst 1, 1, 0, 0, []), some (.if_icmp .ne 25, 3, 94, 0, []), none, none, some (.aload_n 0, 1, 0, 0, []), some (.dup, 1, 0, 0, []), some (.getfield 66, 3, 4, 5, []), none, none, some (.iload_n 2, 1, 0, 0, []), some (.ior, 1, 0, 0, []), some (.putfield 66, 3, 4, 5, []), none, none, some (.aload_n 0, 1, 0, 0, []), some (.iload_n 3, 1, 0, 0, []), some (.iload 4, 2, 0, 0, []), none, some (.iload_n 2, 1, 0, 0, []), some (.invokevirtual 69, 3, 810, 3, []), none, none, some (.iload_n 2, 1, 0, 0, []), some (.iconst 1, 1, 0, 0, []), some (.ishl, 1, 0, 0, []), some (.istore_n 2, 1, 0, 0, []), some (.iinc 4 1, 3, 0, 0, []), none, none, some (.goto (-51), 3, 46, 0, []), none, none, some (.iinc 3 1, 3, 0, 0, []), none, none, some (.goto (-73), 3, 30, 0, []), none, none, some (.return_, 1, 0, 0, [])]
def kX4_allApart : List (Option zi_I) := [some (.iconst 0, 1, 0, 0, []), some (.istore_n 1, 1, 0, 0, []), some (.iconst 0, 1, 0, 0, []), some (.istore_n 2, 1, 0, 0, []), some (.iload_n 2, 1, 0, 0, []), some (.bipush 26, 2, 0, 0, []), none, some (.if_icmp .ge 18, 3, 25, 0, []), none, none, some (.iload_n 1, 1, 0, 0, []), some (.aload_n 0, 1, 0, 0, []), some (.getfield 9, 3, 4, 1, []), none, none, some (.iload_n 2, 1, 0, 0, []), some (.iaload, 1, 0, 0, []), some (.ior, 1, 0, 0, []), some (.istore_n 1, 1, 0, 0, []), some (.iinc 2 1, 3, 0, 0, []), none, none, some (.goto (-18), 3, 4, 0, []), none, none, some (.iload_n 1, 1, 0, 0, []), some (.aload_n 0, 1, 0, 0, []), some (.getfield 66, 3, 4, 5, []), none, none, some (.if_icmp .ne 7, 3, 37, 0, []), none, none, some (.iconst 1, 1, 0, 0, []), some (.goto 4, 3, 38, 0, []), none, none, some (.iconst 0, 1, 0, 0, []), some (.ireturn, 1, 0, 0, [])]
def kX4_markPair : List (Option zi_I) := [some (.iconst 0, 1, 0, 0, []), some (.istore 4, 2, 0, 0, []), none, some (.iload 4, 2, 0, 0, []), none, some (.bipush 26, 2, 0, 0, []), none, some (.if_icmp .ge 37, 3, 44, 0, []), none, none, some (.aload_n 0, 1, 0, 0, []), some (.iload_n 1, 1, 0, 0, []), some (.iload 4, 2, 0, 0, []), none, some (.invokevirtual 40, 3, 804, 2, []), none, none, some (.aload_n 0, 1, 0, 0, []), some (.iload_n 2, 1, 0, 0, []), some (.iload 4, 2, 0, 0, []), none, some (.invokevirtual 40, 3, 804, 2, []), none, none, some (.if_icmp .eq 14, 3, 38, 0, []), none, none, some (.aload_n 0, 1, 0, 0, []), some (.getfield 9, 3, 4, 1, []), none, none, some (.iload 4, 2, 0, 0, []), none, some (.dup2, 1, 0, 0, []), some (.iaload, 1, 0, 0, []), some (.iload_n 3, 1, 0, 0, []), some (.ior, 1, 0, 0, []), some (.iastore, 1, 0, 0, []), some (.iinc 4 1, 3, 0, 0, []), none, none, some (.goto (-38), 3, 3, 0, []), none, none, some (.return_, 1, 0, 0, [])]
def kX4_partingBy : List (Option zi_I) := [some (.iload_n 1, 1, 0, 0, []), some (.ifCond .ne 17, 3, 18, 0, []), none, none, some (.iload_n 3, 1, 0, 0, []), some (.aload_n 0, 1, 0, 0, []), some (.getfield 66, 3, 4, 5, []), none, none, some (.if_icmp .ne 7, 3, 16, 0, []), none, none, some (.iconst 0, 1, 0, 0, []), some (.goto 4, 3, 17, 0, []), none, none, some (.iconst (-1), 1, 0, 0, []), some (.ireturn, 1, 0, 0, []), some (.iload_n 1, 1, 0, 0, []), some (.iconst 1, 1, 0, 0, []), some (.isub, 1, 0, 0, []), some (.istore 4, 2, 0, 0, []), none, some (.iload 4, 2, 0, 0, []), none, some (.iload_n 2, 1, 0, 0, []), some (.if_icmp .ge 42, 3, 68, 0, []), none, none, some (.aload_n 0, 1, 0, 0, []), some (.iload_n 1, 1, 0, 0, []), some (.iconst 1, 1, 0, 0, []), some (.isub, 1, 0, 0, []), some (.iload 4, 2, 0, 0, []), none, some (.iload_n 3, 1, 0, 0, []), some (.aload_n 0, 1, 0, 0, []), some (.getfield 9, 3, 4, 1, []), none, none, some (.iload 4, 2, 0, 0, []), none, some (.iaload, 1, 0, 0, []), some (.ior, 1, 0, 0, []), some (.invokevirtual 62, 3, 811, 3, []), none, none, some (.istore 5, 2, 0, 0, []), none, some (.iload 5, 2, 0, 0, []), none, some (.ifCond .lt 11, 3, 62, 0, []), none, none, some (.iload 5, 2, 0, 0, []), none, some (.iconst 1, 1, 0, 0, []), some (.iload 4, 2, 0, 0, []), none, some (.ishl, 1, 0, 0, []), some (.ior, 1, 0, 0, []), some (.ireturn, 1, 0, 0, []), some (.iinc 4 1, 3, 0, 0, []), none, none, some (.goto (-42), 3, 23, 0, []), none, none, some (.iconst (-1), 1, 0, 0, []), some (.ireturn, 1, 0, 0, [])]
def kX5_init : List (Option zi_I) := [some (.aload_n 0, 1, 0, 0, []), some (.invokespecial 1, 3, 9000, 0, []), none, none, some (.aload_n 0, 1, 0, 0, []), some (.bipush 16, 2, 0, 0, []), none, some (.newarray .long, 2, 0, 0, []), none, some (.putfield 7, 3, 5, 0, []), none, none, some (.return_, 1, 0, 0, [])]
def kX5_size : List (Option zi_I) := [some (.aload_n 0, 1, 0, 0, []), some (.getfield 13, 3, 5, 1, []), none, none, some (.ireturn, 1, 0, 0, [])]
def kX5_at : List (Option zi_I) := [some (.iload_n 1, 1, 0, 0, []), some (.ifCond .lt 20, 3, 21, 0, []), none, none, some (.iload_n 1, 1, 0, 0, []), some (.aload_n 0, 1, 0, 0, []), some (.getfield 13, 3, 5, 1, []), none, none, some (.if_icmp .ge 12, 3, 21, 0, []), none, none, some (.aload_n 0, 1, 0, 0, []), some (.getfield 7, 3, 5, 0, []), none, none, some (.iload_n 1, 1, 0, 0, []), some (.laload, 1, 0, 0, []), some (.goto 4, 3, 22, 0, []), none, none, some (.lconst 0, 1, 0, 0, []), some (.lreturn, 1, 0, 0, [])]
def kX5_clear : List (Option zi_I) := [some (.aload_n 0, 1, 0, 0, []), some (.iconst 0, 1, 0, 0, []), some (.putfield 13, 3, 5, 1, []), none, none, some (.return_, 1, 0, 0, [])]
def kX5_add : List (Option zi_I) := [some (.aload_n 0, 1, 0, 0, []), some (.getfield 13, 3, 5, 1, []), none, none, some (.aload_n 0, 1, 0, 0, []), some (.getfield 7, 3, 5, 0, []), none, none, some (.arraylength, 1, 0, 0, []), some (.if_icmp .ge 23, 3, 32, 0, []), none, none, some (.aload_n 0, 1, 0, 0, []), some (.getfield 7, 3, 5, 0, []), none, none, some (.aload_n 0, 1, 0, 0, []), some (.getfield 13, 3, 5, 1, []), none, none, some (.lload_n 1, 1, 0, 0, []), some (.lastore, 1, 0, 0, []), some (.aload_n 0, 1, 0, 0, []), some (.dup, 1, 0, 0, []), some (.getfield 13, 3, 5, 1, []), none, none, some (.iconst 1, 1, 0, 0, []), some (.iadd, 1, 0, 0, []), some (.putfield 13, 3, 5, 1, []), none, none, some (.return_, 1, 0, 0, [])]
def kX5_tell : List (Option zi_I) := [some (.aload_n 0, 1, 0, 0, []), some (.invokevirtual 17, 3, 1003, 0, []), none, none, some (.aload_n 0, 1, 0, 0, []), some (.lload_n 1, 1, 0, 0, []), some (.invokevirtual 20, 3, 1004, 1, []), none, none, some (.return_, 1, 0, 0, [])]
def kX6_init : List (Option zi_I) := [some (.aload_n 0, 1, 0, 0, []), some (.invokespecial 1, 3, 9000, 0, []), none, none, some (.aload_n 0, 1, 0, 0, []), some (.bipush 15, 2, 0, 0, []), none, some (.anewarray 9, 3, 0, 0, []), none, none, some (.putfield 11, 3, 6, 0, []), none, none, some (.iconst 0, 1, 0, 0, []), some (.istore_n 1, 1, 0, 0, []), some (.iload_n 1, 1, 0, 0, []), some (.bipush 15, 2, 0, 0, []), none, some (.if_icmp .ge 22, 3, 40, 0, []), none, none, some (.aload_n 0, 1, 0, 0, []), some (.getfield 11, 3, 6, 0, []), none, none, some (.iload_n 1, 1, 0, 0, []), some (.new 9, 3, 3, 0, []), none, none, some (.dup, 1, 0, 0, []), some (.invokespecial 15, 3, 600, 0, []), none, none, some (.aastore, 1, 0, 0, []), some (.iinc 1 1, 3, 0, 0, []), none, none, some (.goto (-22), 3, 15, 0, []), none, none, some (.return_, 1, 0, 0, [])]
def kX6_size : List (Option zi_I) := [some (.aload_n 0, 1, 0, 0, []), some (.getfield 16, 3, 6, 2, []), none, none, some (.ireturn, 1, 0, 0, [])]
def kX6_clear : List (Option zi_I) := [some (.aload_n 0, 1, 0, 0, []), some (.iconst 0, 1, 0, 0, []), some (.putfield 16, 3, 6, 2, []), none, none, some (.return_, 1, 0, 0, [])]
def kX6_add : List (Option zi_I) := [some (.aload_n 0, 1, 0, 0, []), some (.getfield 11, 3, 6, 0, []), none, none, some (.aload_n 0, 1, 0, 0, []), some (.getfield 20, 3, 6, 1, []), none, none, some (.aload_n 0, 1, 0, 0, []), some (.getfield 16, 3, 6, 2, []), none, none, some (.iadd, 1, 0, 0, []), some (.bipush 15, 2, 0, 0, []), none, some (.irem, 1, 0, 0, []), some (.aaload, 1, 0, 0, []), some (.aload_n 1, 1, 0, 0, []), some (.invokevirtual 23, 3, 601, 1, []), none, none, some (.aload_n 0, 1, 0, 0, []), some (.getfield 16, 3, 6, 2, []), none, none, some (.bipush 15, 2, 0, 0, []), none, some (.if_icmp .ge 16, 3, 43, 0, []), none, none, some (.aload_n 0, 1, 0, 0, []), some (.dup, 1, 0, 0, []), some (.getfield 16, 3, 6, 2, []), none, none, some (.iconst 1, 1, 0, 0, []), some (.iadd, 1, 0, 0, []), some (.putfield 16, 3, 6, 2, []), none, none, some (.goto 16, 3, 56, 0, []), none, none, some (.aload_n 0, 1, 0, 0, []), some (.aload_n 0, 1, 0, 0, []), some (.getfield 20, 3, 6, 1, []), none, none, some (.iconst 1, 1, 0, 0, []), some (.iadd, 1, 0, 0, []), some (.bipush 15, 2, 0, 0, []), none, some (.irem, 1, 0, 0, []), some (.putfield 20, 3, 6, 1, []), none, none, some (.return_, 1, 0, 0, [])]
def kX6_takeBack : List (Option zi_I) := [some (.aload_n 0, 1, 0, 0, []), some (.getfield 16, 3, 6, 2, []), none, none, some (.ifCond .ne 5, 3, 9, 0, []), none, none, some (.iconst 0, 1, 0, 0, []), some (.ireturn, 1, 0, 0, []), some (.aload_n 0, 1, 0, 0, []), some (.dup, 1, 0, 0, []), some (.getfield 16, 3, 6, 2, []), none, none, some (.iconst 1, 1, 0, 0, []), some (.isub, 1, 0, 0, []), some (.putfield 16, 3, 6, 2, []), none, none, some (.aload_n 1, 1, 0, 0, []), some (.aload_n 0, 1, 0, 0, []), some (.getfield 11, 3, 6, 0, []), none, none, some (.aload_n 0, 1, 0, 0, []), some (.getfield 20, 3, 6, 1, []), none, none, some (.aload_n 0, 1, 0, 0, []), some (.getfield 16, 3, 6, 2, []), none, none, some (.iadd, 1, 0, 0, []), some (.bipush 15, 2, 0, 0, []), none, some (.irem, 1, 0, 0, []), some (.aaload, 1, 0, 0, []), some (.invokevirtual 23, 3, 601, 1, []), none, none, some (.iconst 1, 1, 0, 0, []), some (.ireturn, 1, 0, 0, [])]
def kX7_init : List (Option zi_I) := [some (.aload_n 0, 1, 0, 0, []), some (.invokespecial 3, 3, 9000, 0, []), none, none, some (.aload_n 0, 1, 0, 0, []), some (.bipush 40, 2, 0, 0, []), none, some (.newarray .int, 2, 0, 0, []), none, some (.putfield 11, 3, 7, 0, []), none, none, some (.aload_n 0, 1, 0, 0, []), some (.bipush 40, 2, 0, 0, []), none, some (.newarray .int, 2, 0, 0, []), none, some (.putfield 15, 3, 7, 1, []), none, none, some (.aload_n 0, 1, 0, 0, []), some (.bipush 41, 2, 0, 0, []), none, some (.newarray .int, 2, 0, 0, []), none, some (.putfield 18, 3, 7, 2, []), none, none, some (.aload_n 0, 1, 0, 0, []), some (.bipush 7, 2, 0, 0, []), none, some (.newarray .int, 2, 0, 0, []), none, some (.putfield 21, 3, 7, 3, []), none, none, some (.return_, 1, 0, 0, [])]
def kX7_read : List (Option zi_I) := [some (.aload_n 1, 1, 0, 0, []), some (.bipush 40, 2, 0, 0, []), none, some (.invokevirtual 24, 3, 1605, 1, []), none, none, some (.aload_n 0, 1, 0, 0, []), some (.iconst 0, 1, 0, 0, []), some (.putfield 30, 3, 7, 5, []), none, none, some (.aload_n 1, 1, 0, 0, []), some (.invokevirtual 34, 3, 1608, 0, []), none, none, some (.ifCond .ne 24, 3, 39, 0, []), none, none, some (.aload_n 0, 1, 0, 0, []), some (.aload_n 1, 1, 0, 0, []), some (.iconst 0, 1, 0, 0, []), some (.invokevirtual 38, 3, 1404, 2, []), none, none, some (.ifCond .eq 10, 3, 34, 0, []), none, none, some (.aload_n 1, 1, 0, 0, []), some (.invokevirtual 34, 3, 1608, 0, []), none, none, some (.ifCond .ne 8, 3, 39, 0, []), none, none, some (.aload_n 1, 1, 0, 0, []), some (.invokevirtual 42, 3, 1609, 0, []), none, none, some (.ireturn, 1, 0, 0, []), some (.aload_n 0, 1, 0, 0, []), some (.getfield 15, 3, 7, 1, []), none, none, some (.iconst 0, 1, 0, 0, []), some (.aload_n 0, 1, 0, 0, []), some (.getfield 11, 3, 7, 0, []), none, none, some (.iconst 0, 1, 0, 0, []), some (.aload_n 0, 1, 0, 0, []), some (.getfield 30, 3, 7, 5, []), none, none, some (.invokestatic 46, 3, 9003, 0, []), none, none, some (.aload_n 0, 1, 0, 0, []), some (.aload_n 0, 1, 0, 0, []), some (.getfield 30, 3, 7, 5, []), none, none, some (.putfield 52, 3, 7, 4, []), none, none, some (.iconst 0, 1, 0, 0, []), some (.ireturn, 1, 0, 0, [])]
def kX7_put : List (Option zi_I) := [some (.iload_n 1, 1, 0, 0, []), some (.ifCond .lt 19, 3, 20, 0, []), none, none, some (.iload_n 1, 1, 0, 0, []), some (.aload_n 0, 1, 0, 0, []), some (.getfield 21, 3, 7, 3, []), none, none, some (.arraylength, 1, 0, 0, []), some (.if_icmp .ge 10, 3, 20, 0, []), none, none, some (.aload_n 0, 1, 0, 0, []), some (.getfield 21, 3, 7, 3, []), none, none, some (.iload_n 1, 1, 0, 0, []), some (.iload_n 2, 1, 0, 0, []), some (.iastore, 1, 0, 0, []), some (.return_, 1, 0, 0, [])]
def kX7_minutes : List (Option zi_I) := [some (.aload_n 0, 1, 0, 0, []), some (.getfield 52, 3, 7, 4, []), none, none, some (.ifCond .ne 39, 3, 43, 0, []), none, none, some (.aload_n 0, 1, 0, 0, []), some (.getfield 21, 3, 7, 3, []), none, none, some (.iconst 0, 1, 0, 0, []), some (.iaload, 1, 0, 0, []), some (.iconst 2, 1, 0, 0, []), some (.imul, 1, 0, 0, []), some (.aload_n 0, 1, 0, 0, []), some (.getfield 21, 3, 7, 3, []), none, none, some (.iconst 1, 1, 0, 0, []), some (.iaload, 1, 0, 0, []), some (.iconst 2, 1, 0, 0, []), some (.idiv, 1, 0, 0, []), some (.iadd, 1, 0, 0, []), some (.aload_n 0, 1, 0, 0, []), some (.getfield 21, 3, 7, 3, []), none, none, some (.iconst 2, 1, 0, 0, []), some (.iaload, 1, 0, 0, []), some (.iadd, 1, 0, 0, []), some (.aload_n 0, 1, 0, 0, []), some (.getfield 21, 3, 7, 3, []), none, none, some (.iconst 3, 1, 0, 0, []), some (.iaload, 1, 0, 0, []), some (.iconst 3, 1, 0, 0, []), some (.imul, 1, 0, 0, []), some (.iadd, 1, 0, 0, []), some (.goto 7, 3, 47, 0, []), none, none, some (.aload_n 0, 1, 0, 0, []), some (.invokevirtual 55, 3, 1410, 0, []), none, none, some (.istore_n 1, 1, 0, 0, []), some (.iconst 1, 1, 0, 0, []), some (.bipush 99, 2, 0, 0, []), none, some (.iload_n 1, 1, 0, 0, []), some (.invokestatic 58, 3, 9002, 0, []), none, none, some (.invokestatic 64, 3, 9001, 0, []), none, none, some (.ireturn, 1, 0, 0, [])]
def kX7_comparison : List (Option zi_I) := [some (.aload_n 0, 1, 0, 0, []), some (.aload_n 1, 1, 0, 0, []), some (.iload_n 2, 1, 0, 0, []), some (.invokevirtual 67, 3, 1405, 2, []), none, none, some (.ifCond .ne 5, 3, 11, 0, []), none, none, some (.iconst 0, 1, 0, 0, []), some (.ireturn, 1, 0, 0, []), some (.aload_n 1, 1, 0, 0, []), some (.bipush 60, 2, 0, 0, []), none, some (.bipush 62, 2, 0, 0, []), none, some (.invokevirtual 70, 3, 1610, 2, []), none, none, some (.istore_n 3, 1, 0, 0, []), some (.iload_n 3, 1, 0, 0, []), some (.ifCond .ge 5, 3, 26, 0, []), none, none, some (.iconst 1, 1, 0, 0, []), some (.ireturn, 1, 0, 0, []), some (.aload_n 0, 1, 0, 0, []), some (.aload_n 1, 1, 0, 0, []), some (.iload_n 2, 1, 0, 0, []), some (.invokevirtual 67, 3, 1405, 2, []), none, none, some (.ifCond .eq 19, 3, 51, 0, []), none, none, some (.aload_n 0, 1, 0, 0, []), some (.sipush 1000, 3, 0, 0, []), none, none, some (.iload_n 3, 1, 0, 0, []), some (.iadd, 1, 0, 0, []), some (.invokevirtual 73, 3, 1409, 1, []), none, none, some (.ifCond .eq 7, 3, 51, 0, []), none, none, some (.iconst 1, 1, 0, 0, []), some (.goto 4, 3, 52, 0, []), none, none, some (.iconst 0, 1, 0, 0, []), some (.ireturn, 1, 0, 0, [])]
def kX7_sum : List (Option zi_I) := [some (.aload_n 0, 1, 0, 0, []), some (.aload_n 1, 1, 0, 0, []), some (.iload_n 2, 1, 0, 0, []), some (.invokevirtual 77, 3, 1406, 2, []), none, none, some (.istore_n 3, 1, 0, 0, []), some (.iconst 0, 1, 0, 0, []), some (.istore 4, 2, 0, 0, []), none, some (.iload 4, 2, 0, 0, []), none, some (.bipush 40, 2, 0, 0, []), none, some (.if_icmp .ge 67, 3, 81, 0, []), none, none, some (.iload_n 3, 1, 0, 0, []), some (.ifCond .eq 63, 3, 81, 0, []), none, none, some (.aload_n 1, 1, 0, 0, []), some (.invokevirtual 80, 3, 1606, 0, []), none, none, some (.istore 5, 2, 0, 0, []), none, some (.iload 5, 2, 0, 0, []), none, some (.bipush 43, 2, 0, 0, []), none, some (.if_icmp .eq 12, 3, 43, 0, []), none, none, some (.iload 5, 2, 0, 0, []), none, some (.bipush 45, 2, 0, 0, []), none, some (.if_icmp .eq 5, 3, 43, 0, []), none, none, some (.iconst 1, 1, 0, 0, []), some (.ireturn, 1, 0, 0, []), some (.aload_n 1, 1, 0, 0, []), some (.invokevirtual 83, 3, 1607, 0, []), none, none, some (.aload_n 0, 1, 0, 0, []), some (.aload_n 1, 1, 0, 0, []), some (.iload_n 2, 1, 0, 0, []), some (.invokevirtual 77, 3, 1406, 2, []), none, none, some (.ifCond .eq 20, 3, 73, 0, []), none, none, some (.aload_n 0, 1, 0, 0, []), some (.sipush 1000, 3, 0, 0, []), none, none, some (.iload 5, 2, 0, 0, []), none, some (.iadd, 1, 0, 0, []), some (.invokevirtual 73, 3, 1409, 1, []), none, none, some (.ifCond .eq 7, 3, 73, 0, []), none, none, some (.iconst 1, 1, 0, 0, []), some (.goto 4, 3, 74, 0, []), none, none, some (.iconst 0, 1, 0, 0, []), some (.istore_n 3, 1, 0, 0, []), some (.iinc 4 1, 3, 0, 0, []), none, none, some (.goto (-68), 3, 10, 0, []), none, none, some (.iload_n 3, 1, 0, 0, []), some (.ireturn, 1, 0, 0, [])]
def kX7_product : List (Option zi_I) := [some (.aload_n 0, 1, 0, 0, []), some (.aload_n 1, 1, 0, 0, []), some (.iload_n 2, 1, 0, 0, []), some (.invokevirtual 86, 3, 1407, 2, []), none, none, some (.istore_n 3, 1, 0, 0, []), some (.iconst 0, 1, 0, 0, []), some (.istore 4, 2, 0, 0, []), none, some (.iload 4, 2, 0, 0, []), none, some (.bipush 40, 2, 0, 0, []), none, some (.if_icmp .ge 67, 3, 81, 0, []), none, none, some (.iload_n 3, 1, 0, 0, []), some (.ifCond .eq 63, 3, 81, 0, []), none, none, some (.aload_n 1, 1, 0, 0, []), some (.invokevirtual 80, 3, 1606, 0, []), none, none, some (.istore 5, 2, 0, 0, []), none, some (.iload 5, 2, 0, 0, []), none, some (.bipush 42, 2, 0, 0, []), none, some (.if_icmp .eq 12, 3, 43, 0, []), none, none, some (.iload 5, 2, 0, 0, []), none, some (.bipush 47, 2, 0, 0, []), none, some (.if_icmp .eq 5, 3, 43, 0, []), none, none, some (.iconst 1, 1, 0, 0, []), some (.ireturn, 1, 0, 0, []), some (.aload_n 1, 1, 0, 0, []), some (.invokevirtual 83, 3, 1607, 0, []), none, none, some (.aload_n 0, 1, 0, 0, []), some (.aload_n 1, 1, 0, 0, []), some (.iload_n 2, 1, 0, 0, []), some (.invokevirtual 86, 3, 1407, 2, []), none, none, some (.ifCond .eq 20, 3, 73, 0, []), none, none, some (.aload_n 0, 1, 0, 0, []), some (.sipush 1000, 3, 0, 0, []), none, none, some (.iload 5, 2, 0, 0, []), none, some (.iadd, 1, 0, 0, []), some (.invokevirtual 73, 3, 1409, 1, []), none, none, some (.ifCond .eq 7, 3, 73, 0, []), none, none, some (.iconst 1, 1, 0, 0, []), some (.goto 4, 3, 74, 0, []), none, none, some (.iconst 0, 1, 0, 0, []), some (.istore_n 3, 1, 0, 0, []), some (.iinc 4 1, 3, 0, 0, []), none, none, some (.goto (-68), 3, 10, 0, []), none, none, some (.iload_n 3, 1, 0, 0, []), some (.ireturn, 1, 0, 0, [])]
def kX7_negated : List (Option zi_I) := [some (.iconst 0, 1, 0, 0, []), some (.istore_n 3, 1, 0, 0, []), some (.iconst 0, 1, 0, 0, []), some (.istore 4, 2, 0, 0, []), none, some (.iload 4, 2, 0, 0, []), none, some (.bipush 40, 2, 0, 0, []), none, some (.if_icmp .ge 30, 3, 39, 0, []), none, none, some (.aload_n 1, 1, 0, 0, []), some (.bipush 45, 2, 0, 0, []), none, some (.bipush 45, 2, 0, 0, []), none, some (.invokevirtual 70, 3, 1610, 2, []), none, none, some (.ifCond .lt 19, 3, 39, 0, []), none, none, some (.iload_n 3, 1, 0, 0, []), some (.ifCond .ne 7, 3, 31, 0, []), none, none, some (.iconst 1, 1, 0, 0, []), some (.goto 4, 3, 32, 0, []), none, none, some (.iconst 0, 1, 0, 0, []), some (.istore_n 3, 1, 0, 0, []), some (.iinc 4 1, 3, 0, 0, []), none, none, some (.goto (-31), 3, 5, 0, []), none, none, some (.aload_n 0, 1, 0, 0, []), some (.aload_n 1, 1, 0, 0, []), some (.iload_n 2, 1, 0, 0, []), some (.invokevirtual 89, 3, 1408, 2, []), none, none, some (.ifCond .eq 21, 3, 66, 0, []), none, none, some (.iload_n 3, 1, 0, 0, []), some (.ifCond .eq 13, 3, 62, 0, []), none, none, some (.aload_n 0, 1, 0, 0, []), some (.sipush 1126, 3, 0, 0, []), none, none, some (.invokevirtual 73, 3, 1409, 1, []), none, none, some (.ifCond .eq 7, 3, 66, 0, []), none, none, some (.iconst 1, 1, 0, 0, []), some (.goto 4, 3, 67, 0, []), none, none, some (.iconst 0, 1, 0, 0, []), some (.ireturn, 1, 0, 0, [])]
def kX7_thing : List (Option zi_I) := [some (.aload_n 1, 1, 0, 0, []), some (.iconst 3, 1, 0, 0, []), some (.invokevirtual 92, 3, 1611, 1, []), none, none, some (.istore_n 3, 1, 0, 0, []), some (.iload_n 3, 1, 0, 0, []), some (.ifCond .lt 9, 3, 16, 0, []), none, none, some (.aload_n 0, 1, 0, 0, []), some (.iload_n 3, 1, 0, 0, []), some (.invokevirtual 73, 3, 1409, 1, []), none, none, some (.ireturn, 1, 0, 0, []), some (.aload_n 1, 1, 0, 0, []), some (.invokevirtual 80, 3, 1606, 0, []), none, none, some (.istore 4, 2, 0, 0, []), none, some (.iload 4, 2, 0, 0, []), none, some (.bipush 40, 2, 0, 0, []), none, some (.if_icmp .ne 40, 3, 66, 0, []), none, none, some (.iload_n 2, 1, 0, 0, []), some (.iconst 4, 1, 0, 0, []), some (.if_icmp .ge 35, 3, 66, 0, []), none, none, some (.aload_n 1, 1, 0, 0, []), some (.invokevirtual 83, 3, 1607, 0, []), none, none, some (.aload_n 0, 1, 0, 0, []), some (.aload_n 1, 1, 0, 0, []), some (.iload_n 2, 1, 0, 0, []), some (.iconst 1, 1, 0, 0, []), some (.iadd, 1, 0, 0, []), some (.invokevirtual 38, 3, 1404, 2, []), none, none, some (.ifCond .eq 18, 3, 64, 0, []), none, none, some (.aload_n 1, 1, 0, 0, []), some (.bipush 41, 2, 0, 0, []), none, some (.bipush 41, 2, 0, 0, []), none, some (.invokevirtual 70, 3, 1610, 2, []), none, none, some (.ifCond .lt 7, 3, 64, 0, []), none, none, some (.iconst 1, 1, 0, 0, []), some (.goto 4, 3, 65, 0, []), none, none, some (.iconst 0, 1, 0, 0, []), some (.ireturn, 1, 0, 0, []), some (.iload 4, 2, 0, 0, []), none, some (.ifCond .lt 14, 3, 82, 0, []), none, none, some (.ldc 96, 2, 0, 1, []), none, some (.iload 4, 2, 0, 0, []), none, some (.i2c, 1, 0, 0, []), some (.invokevirtual 98, 3, 3002, 1, []), none, none, some (.ifCond .ge 5, 3, 84, 0, []), none, none, some (.iconst 0, 1, 0, 0, []), some (.ireturn, 1, 0, 0, []), some (.aload_n 1, 1, 0, 0, []), some (.invokevirtual 83, 3, 1607, 0, []), none, none, some (.aload_n 0, 1, 0, 0, []), some (.sipush 1000, 3, 0, 0, []), none, none, some (.iload 4, 2, 0, 0, []), none, some (.iadd, 1, 0, 0, []), some (.invokevirtual 73, 3, 1409, 1, []), none, none, some (.ireturn, 1, 0, 0, [])]
def kX7_emit : List (Option zi_I) := [some (.aload_n 0, 1, 0, 0, []), some (.getfield 30, 3, 7, 5, []), none, none, some (.aload_n 0, 1, 0, 0, []), some (.getfield 15, 3, 7, 1, []), none, none, some (.arraylength, 1, 0, 0, []), some (.if_icmp .lt 5, 3, 14, 0, []), none, none, some (.iconst 0, 1, 0, 0, []), some (.ireturn, 1, 0, 0, []), some (.aload_n 0, 1, 0, 0, []), some (.getfield 15, 3, 7, 1, []), none, none, some (.aload_n 0, 1, 0, 0, []), some (.getfield 30, 3, 7, 5, []), none, none, some (.iload_n 1, 1, 0, 0, []), some (.iastore, 1, 0, 0, []), some (.aload_n 0, 1, 0, 0, []), some (.dup, 1, 0, 0, []), some (.getfield 30, 3, 7, 5, []), none, none, some (.iconst 1, 1, 0, 0, []), some (.iadd, 1, 0, 0, []), some (.putfield 30, 3, 7, 5, []), none, none, some (.iconst 1, 1, 0, 0, []), some (.ireturn, 1, 0, 0, [])]
def kX7_worth : List (Option zi_I) := [some (.iconst 0, 1, 0, 0, []), some (.istore_n 1, 1, 0, 0, []), some (.iconst 0, 1, 0, 0, []), some (.istore_n 2, 1, 0, 0, []), some (.iload_n 2, 1, 0, 0, []), some (.aload_n 0, 1, 0, 0, []), some (.getfield 52, 3, 7, 4, []), none, none, some (.if_icmp .ge 144, 3, 153, 0, []), none, none, some (.aload_n 0, 1, 0, 0, []), some (.getfield 11, 3, 7, 0, []), none, none, some (.iload_n 2, 1, 0, 0, []), some (.iaload, 1, 0, 0, []), some (.sipush 1000, 3, 0, 0, []), none, none, some (.isub, 1, 0, 0, []), some (.istore_n 3, 1, 0, 0, []), some (.iload_n 3, 1, 0, 0, []), some (.ifCond .ge 7, 3, 31, 0, []), none, none, some (.iconst (-1), 1, 0, 0, []), some (.goto 10, 3, 38, 0, []), none, none, some (.ldc 96, 2, 0, 1, []), none, some (.iload_n 3, 1, 0, 0, []), some (.i2c, 1, 0, 0, []), some (.invokevirtual 98, 3, 3002, 1, []), none, none, some (.istore 4, 2, 0, 0, []), none, some (.iload_n 3, 1, 0, 0, []), some (.ifCond .lt 8, 3, 49, 0, []), none, none, some (.iload 4, 2, 0, 0, []), none, some (.ifCond .lt 36, 3, 82, 0, []), none, none, some (.aload_n 0, 1, 0, 0, []), some (.getfield 18, 3, 7, 2, []), none, none, some (.iload_n 1, 1, 0, 0, []), some (.iload 4, 2, 0, 0, []), none, some (.ifCond .lt 13, 3, 69, 0, []), none, none, some (.aload_n 0, 1, 0, 0, []), some (.getfield 21, 3, 7, 3, []), none, none, some (.iload 4, 2, 0, 0, []), none, some (.iaload, 1, 0, 0, []), some (.goto 9, 3, 75, 0, []), none, none, some (.aload_n 0, 1, 0, 0, []), some (.getfield 11, 3, 7, 0, []), none, none, some (.iload_n 2, 1, 0, 0, []), some (.iaload, 1, 0, 0, []), some (.iastore, 1, 0, 0, []), some (.iinc 1 1, 3, 0, 0, []), none, none, some (.goto 68, 3, 147, 0, []), none, none, some (.iload_n 3, 1, 0, 0, []), some (.bipush 126, 2, 0, 0, []), none, some (.if_icmp .ne 28, 3, 113, 0, []), none, none, some (.iload_n 1, 1, 0, 0, []), some (.iconst 1, 1, 0, 0, []), some (.if_icmp .lt 23, 3, 113, 0, []), none, none, some (.aload_n 0, 1, 0, 0, []), some (.getfield 18, 3, 7, 2, []), none, none, some (.iload_n 1, 1, 0, 0, []), some (.iconst 1, 1, 0, 0, []), some (.isub, 1, 0, 0, []), some (.aload_n 0, 1, 0, 0, []), some (.getfield 18, 3, 7, 2, []), none, none, some (.iload_n 1, 1, 0, 0, []), some (.iconst 1, 1, 0, 0, []), some (.isub, 1, 0, 0, []), some (.iaload, 1, 0, 0, []), some (.ineg, 1, 0, 0, []), some (.iastore, 1, 0, 0, []), some (.goto 37, 3, 147, 0, []), none, none, some (.iload_n 1, 1, 0, 0, []), some (.iconst 2, 1, 0, 0, []), some (.if_icmp .lt 32, 3, 147, 0, []), none, none, some (.iinc 1 (-1), 3, 0, 0, []), none, none, some (.aload_n 0, 1, 0, 0, []), some (.getfield 18, 3, 7, 2, []), none, none, some (.iload_n 1, 1, 0, 0, []), some (.iconst 1, 1, 0, 0, []), some (.isub, 1, 0, 0, []), some (.iload_n 3, 1, 0, 0, []), some (.aload_n 0, 1, 0, 0, []), some (.getfield 18, 3, 7, 2, []), none, none, some (.iload_n 1, 1, 0, 0, []), some (.iconst 1, 1, 0, 0, []), some (.isub, 1, 0, 0, []), some (.iaload, 1, 0, 0, []), some (.aload_n 0, 1, 0, 0, []), some (.getfield 18, 3, 7, 2, []), none, none, some (.iload_n 1, 1, 0, 0, []), some (.iaload, 1, 0, 0, []), some (.invokestatic 103, 3, 1411, 3, []), none, none, some (.iastore, 1, 0, 0, []), some (.iinc 2 1, 3, 0, 0, []), none, none, some (.goto (-146), 3, 4, 0, []), none, none, some (.aload_n 0, 1, 0, 0, []), some (.getfield 18, 3, 7, 2, []), none, none, some (.iconst 0, 1, 0, 0, []), some (.iaload, 1, 0, 0, []), some (.ireturn, 1, 0, 0, [])]
def kX7_joined : List (Option zi_I) := [some (.iload_n 0, 1, 0, 0, []), some (.lookupswitch 104 #[(42, 100), (43, 92), (45, 96), (60, 59), (61, 81), (62, 70)], 59, 105, 0, [(42, 101), (43, 93), (45, 97), (60, 60), (61, 82), (62, 71)]), none, none, none, none, none, none, none, none, none, none, none, none, none, none, none, none, none, none, none, none, none, none, none, none, none, none, none, none, none, none, none, none, none, none, none, none, none, none, none, none, none, none, none, none, none, none, none, none, none, none, none, none, none, none, none, none, none, none, some (.iload_n 1, 1, 0, 0, []), some (.iload_n 2, 1, 0, 0, []), some (.if_icmp .ge 7, 3, 69, 0, []), none, none, some (.iconst 1, 1, 0, 0, []), some (.goto 4, 3, 70, 0, []), none, none, some (.iconst 0, 1, 0, 0, []), some (.ireturn, 1, 0, 0, []), some (.iload_n 1, 1, 0, 0, []), some (.iload_n 2, 1, 0, 0, []), some (.if_icmp .le 7, 3, 80, 0, []), none, none, some (.iconst 1, 1, 0, 0, []), some (.goto 4, 3, 81, 0, []), none, none, some (.iconst 0, 1, 0, 0, []), some (.ireturn, 1, 0, 0, []), some (.iload_n 1, 1, 0, 0, []), some (.iload_n 2, 1, 0, 0, []), some (.if_icmp .ne 7, 3, 91, 0, []), none, none, some (.iconst 1, 1, 0, 0, []), some (.goto 4, 3, 92, 0, []), none, none, some (.iconst 0, 1, 0, 0, []), some (.ireturn, 1, 0, 0, []), some (.iload_n 1, 1, 0, 0, []), some (.iload_n 2, 1, 0, 0, []), some (.iadd, 1, 0, 0, []), some (.ireturn, 1, 0, 0, []), some (.iload_n 1, 1, 0, 0, []), some (.iload_n 2, 1, 0, 0, []), some (.isub, 1, 0, 0, []), some (.ireturn, 1, 0, 0, []), some (.iload_n 1, 1, 0, 0, []), some (.iload_n 2, 1, 0, 0, []), some (.imul, 1, 0, 0, []), some (.ireturn, 1, 0, 0, []), some (.iload_n 2, 1, 0, 0, []), some (.ifCond .ne 7, 3, 113, 0, []), none, none, some (.iconst 0, 1, 0, 0, []), some (.goto 6, 3, 116, 0, []), none, none, some (.iload_n 1, 1, 0, 0, []), some (.iload_n 2, 1, 0, 0, []), some (.idiv, 1, 0, 0, []), some (.ireturn, 1, 0, 0, [])]
def kX8_init : List (Option zi_I) := [some (.aload_n 0, 1, 0, 0, []), some (.invokespecial 1, 3, 9000, 0, []), none, none, some (.aload_n 0, 1, 0, 0, []), some (.bipush 80, 2, 0, 0, []), none, some (.newarray .int, 2, 0, 0, []), none, some (.putfield 9, 3, 8, 0, []), none, none, some (.return_, 1, 0, 0, [])]
def kX8_length : List (Option zi_I) := [some (.aload_n 0, 1, 0, 0, []), some (.getfield 13, 3, 8, 1, []), none, none, some (.ireturn, 1, 0, 0, [])]
def kX8_addFour : List (Option zi_I) := [some (.aload_n 0, 1, 0, 0, []), some (.getfield 13, 3, 8, 1, []), none, none, some (.iconst 4, 1, 0, 0, []), some (.iadd, 1, 0, 0, []), some (.bipush 80, 2, 0, 0, []), none, some (.if_icmp .le 5, 3, 13, 0, []), none, none, some (.iconst 0, 1, 0, 0, []), some (.ireturn, 1, 0, 0, []), some (.iconst 0, 1, 0, 0, []), some (.istore_n 2, 1, 0, 0, []), some (.iload_n 2, 1, 0, 0, []), some (.iconst 4, 1, 0, 0, []), some (.if_icmp .ge 33, 3, 50, 0, []), none, none, some (.aload_n 0, 1, 0, 0, []), some (.getfield 9, 3, 8, 0, []), none, none, some (.aload_n 0, 1, 0, 0, []), some (.getfield 13, 3, 8, 1, []), none, none, some (.iload_n 2, 1, 0, 0, []), some (.iadd, 1, 0, 0, []), some (.iload_n 1, 1, 0, 0, []), some (.bipush 24, 2, 0, 0, []), none, some (.bipush 8, 2, 0, 0, []), none, some (.iload_n 2, 1, 0, 0, []), some (.imul, 1, 0, 0, []), some (.isub, 1, 0, 0, []), some (.iushr, 1, 0, 0, []), some (.sipush 255, 3, 0, 0, []), none, none, some (.iand, 1, 0, 0, []), some (.iastore, 1, 0, 0, []), some (.iinc 2 1, 3, 0, 0, []), none, none, some (.goto (-32), 3, 15, 0, []), none, none, some (.aload_n 0, 1, 0, 0, []), some (.dup, 1, 0, 0, []), some (.getfield 13, 3, 8, 1, []), none, none, some (.iconst 4, 1, 0, 0, []), some (.iadd, 1, 0, 0, []), some (.putfield 13, 3, 8, 1, []), none, none, some (.iconst 1, 1, 0, 0, []), some (.ireturn, 1, 0, 0, [])]
def kX8_cutTo : List (Option zi_I) := [some (.iload_n 1, 1, 0, 0, []), some (.ifCond .lt 11, 3, 12, 0, []), none, none, some (.iload_n 1, 1, 0, 0, []), some (.aload_n 0, 1, 0, 0, []), some (.getfield 13, 3, 8, 1, []), none, none, some (.if_icmp .le 5, 3, 14, 0, []), none, none, some (.iconst 0, 1, 0, 0, []), some (.ireturn, 1, 0, 0, []), some (.aload_n 0, 1, 0, 0, []), some (.iload_n 1, 1, 0, 0, []), some (.putfield 13, 3, 8, 1, []), none, none, some (.iconst 1, 1, 0, 0, []), some (.ireturn, 1, 0, 0, [])]
def kX8_clear : List (Option zi_I) := [some (.aload_n 0, 1, 0, 0, []), some (.iconst 0, 1, 0, 0, []), some (.putfield 13, 3, 8, 1, []), none, none, some (.return_, 1, 0, 0, [])]
def kX8_open : List (Option zi_I) := [some (.aload_n 0, 1, 0, 0, []), some (.iconst 0, 1, 0, 0, []), some (.putfield 17, 3, 8, 2, []), none, none, some (.aload_n 0, 1, 0, 0, []), some (.aload_n 0, 1, 0, 0, []), some (.getfield 13, 3, 8, 1, []), none, none, some (.iload_n 1, 1, 0, 0, []), some (.invokestatic 20, 3, 9002, 0, []), none, none, some (.putfield 26, 3, 8, 3, []), none, none, some (.return_, 1, 0, 0, [])]
def kX8_look : List (Option zi_I) := [some (.aload_n 0, 1, 0, 0, []), some (.getfield 17, 3, 8, 2, []), none, none, some (.ifCond .lt 26, 3, 30, 0, []), none, none, some (.aload_n 0, 1, 0, 0, []), some (.getfield 17, 3, 8, 2, []), none, none, some (.aload_n 0, 1, 0, 0, []), some (.getfield 26, 3, 8, 3, []), none, none, some (.if_icmp .ge 15, 3, 30, 0, []), none, none, some (.aload_n 0, 1, 0, 0, []), some (.getfield 9, 3, 8, 0, []), none, none, some (.aload_n 0, 1, 0, 0, []), some (.getfield 17, 3, 8, 2, []), none, none, some (.iaload, 1, 0, 0, []), some (.goto 4, 3, 31, 0, []), none, none, some (.iconst (-1), 1, 0, 0, []), some (.ireturn, 1, 0, 0, [])]
def kX8_step : List (Option zi_I) := [some (.aload_n 0, 1, 0, 0, []), some (.dup, 1, 0, 0, []), some (.getfield 17, 3, 8, 2, []), none, none, some (.iconst 1, 1, 0, 0, []), some (.iadd, 1, 0, 0, []), some (.putfield 17, 3, 8, 2, []), none, none, some (.return_, 1, 0, 0, [])]
def kX8_over : List (Option zi_I) := [some (.aload_n 0, 1, 0, 0, []), some (.getfield 17, 3, 8, 2, []), none, none, some (.aload_n 0, 1, 0, 0, []), some (.getfield 13, 3, 8, 1, []), none, none, some (.if_icmp .lt 7, 3, 15, 0, []), none, none, some (.iconst 1, 1, 0, 0, []), some (.goto 4, 3, 16, 0, []), none, none, some (.iconst 0, 1, 0, 0, []), some (.ireturn, 1, 0, 0, [])]
def kX8_fault : List (Option zi_I) := [some (.iconst (-1), 1, 0, 0, []), some (.aload_n 0, 1, 0, 0, []), some (.getfield 17, 3, 8, 2, []), none, none, some (.isub, 1, 0, 0, []), some (.ireturn, 1, 0, 0, [])]
def kX8_take : List (Option zi_I) := [some (.aload_n 0, 1, 0, 0, []), some (.invokevirtual 29, 3, 1606, 0, []), none, none, some (.istore_n 3, 1, 0, 0, []), some (.iload_n 3, 1, 0, 0, []), some (.iload_n 1, 1, 0, 0, []), some (.if_icmp .lt 8, 3, 15, 0, []), none, none, some (.iload_n 3, 1, 0, 0, []), some (.iload_n 2, 1, 0, 0, []), some (.if_icmp .le 5, 3, 17, 0, []), none, none, some (.iconst (-1), 1, 0, 0, []), some (.ireturn, 1, 0, 0, []), some (.aload_n 0, 1, 0, 0, []), some (.invokevirtual 33, 3, 1607, 0, []), none, none, some (.iload_n 3, 1, 0, 0, []), some (.ireturn, 1, 0, 0, [])]
def kX8_takeNumber : List (Option zi_I) := [some (.iconst (-1), 1, 0, 0, []), some (.istore_n 2, 1, 0, 0, []), some (.iconst 0, 1, 0, 0, []), some (.istore_n 3, 1, 0, 0, []), some (.iload_n 3, 1, 0, 0, []), some (.iload_n 1, 1, 0, 0, []), some (.if_icmp .ge 45, 3, 51, 0, []), none, none, some (.aload_n 0, 1, 0, 0, []), some (.bipush 48, 2, 0, 0, []), none, some (.bipush 57, 2, 0, 0, []), none, some (.invokevirtual 36, 3, 1610, 2, []), none, none, some (.istore 4, 2, 0, 0, []), none, some (.iload 4, 2, 0, 0, []), none, some (.ifCond .ge 5, 3, 26, 0, []), none, none, some (.iload_n 2, 1, 0, 0, []), some (.ireturn, 1, 0, 0, []), some (.iload_n 3, 1, 0, 0, []), some (.ifCond .ne 7, 3, 34, 0, []), none, none, some (.iconst 0, 1, 0, 0, []), some (.goto 7, 3, 38, 0, []), none, none, some (.iload_n 2, 1, 0, 0, []), some (.bipush 10, 2, 0, 0, []), none, some (.imul, 1, 0, 0, []), some (.iload 4, 2, 0, 0, []), none, some (.iadd, 1, 0, 0, []), some (.bipush 48, 2, 0, 0, []), none, some (.isub, 1, 0, 0, []), some (.istore_n 2, 1, 0, 0, []), some (.iinc 3 1, 3, 0, 0, []), none, none, some (.goto (-44), 3, 4, 0, []), none, none, some (.iload_n 2, 1, 0, 0, []), some (.ireturn, 1, 0, 0, [])]
def kX9_init : List (Option zi_I) := [some (.aload_n 0, 1, 0, 0, []), some (.invokespecial 3, 3, 9000, 0, []), none, none, some (.aload_n 0, 1, 0, 0, []), some (.iconst 4, 1, 0, 0, []), some (.newarray .int, 2, 0, 0, []), none, some (.putfield 9, 3, 9, 2, []), none, none, some (.aload_n 0, 1, 0, 0, []), some (.iconst 4, 1, 0, 0, []), some (.newarray .int, 2, 0, 0, []), none, some (.putfield 15, 3, 9, 3, []), none, none, some (.aload_n 0, 1, 0, 0, []), some (.aload_n 1, 1, 0, 0, []), some (.putfield 18, 3, 9, 0, []), none, none, some (.aload_n 0, 1, 0, 0, []), some (.aload_n 2, 1, 0, 0, []), some (.putfield 22, 3, 9, 1, []), none, none, some (.return_, 1, 0, 0, [])]
def kX9_way : List (Option zi_I) := [some (.aload_n 1, 1, 0, 0, []), some (.getfield 26, 3, 3, 6, []), none, none, some (.iload_n 2, 1, 0, 0, []), some (.iaload, 1, 0, 0, []), some (.iload_n 3, 1, 0, 0, []), some (.if_icmp .ge 7, 3, 14, 0, []), none, none, some (.iconst 1, 1, 0, 0, []), some (.goto 4, 3, 15, 0, []), none, none, some (.iconst 0, 1, 0, 0, []), some (.ireturn, 1, 0, 0, [])]
def kX9_lockAhead : List (Option zi_I) := [some (.iload_n 3, 1, 0, 0, []), some (.iconst 1, 1, 0, 0, []), some (.if_icmp .ne 12, 3, 14, 0, []), none, none, some (.aload_n 1, 1, 0, 0, []), some (.getfield 26, 3, 3, 6, []), none, none, some (.iload_n 2, 1, 0, 0, []), some (.iaload, 1, 0, 0, []), some (.goto 11, 3, 22, 0, []), none, none, some (.aload_n 1, 1, 0, 0, []), some (.getfield 26, 3, 3, 6, []), none, none, some (.iload_n 2, 1, 0, 0, []), some (.iaload, 1, 0, 0, []), some (.iconst 1, 1, 0, 0, []), some (.isub, 1, 0, 0, []), some (.istore 4, 2, 0, 0, []), none, some (.aload_n 0, 1, 0, 0, []), some (.getfield 18, 3, 9, 0, []), none, none, some (.iload 4, 2, 0, 0, []), none, some (.invokevirtual 31, 3, 1, 1, []), none, none, some (.ifCond .eq 8, 3, 41, 0, []), none, none, some (.iload 4, 2, 0, 0, []), none, some (.goto 4, 3, 42, 0, []), none, none, some (.iconst (-1), 1, 0, 0, []), some (.ireturn, 1, 0, 0, [])]
def kX9_hindrance : List (Option zi_I) := [some (.aload_n 0, 1, 0, 0, []), some (.getfield 18, 3, 9, 0, []), none, none, some (.iload_n 2, 1, 0, 0, []), some (.invokevirtual 37, 3, 4, 1, []), none, none, some (.ifCond .eq 12, 3, 20, 0, []), none, none, some (.iload_n 3, 1, 0, 0, []), some (.ifCond .lt 8, 3, 20, 0, []), none, none, some (.iload_n 3, 1, 0, 0, []), some (.iconst 1, 1, 0, 0, []), some (.if_icmp .le 5, 3, 22, 0, []), none, none, some (.iconst (-1), 1, 0, 0, []), some (.ireturn, 1, 0, 0, []), some (.aload_n 0, 1, 0, 0, []), some (.aload_n 1, 1, 0, 0, []), some (.iload_n 2, 1, 0, 0, []), some (.iload_n 3, 1, 0, 0, []), some (.invokevirtual 40, 3, 1802, 3, []), none, none, some (.istore 4, 2, 0, 0, []), none, some (.iload 4, 2, 0, 0, []), none, some (.ifCond .ge 6, 3, 39, 0, []), none, none, some (.bipush (-2), 2, 0, 0, []), none, some (.ireturn, 1, 0, 0, []), some (.aload_n 0, 1, 0, 0, []), some (.getfield 22, 3, 9, 1, []), none, none, some (.aload_n 1, 1, 0, 0, []), some (.iload 4, 2, 0, 0, []), none, some (.iconst 0, 1, 0, 0, []), some (.invokevirtual 44, 3, 201, 3, []), none, none, some (.aload_n 0, 1, 0, 0, []), some (.getfield 22, 3, 9, 1, []), none, none, some (.aload_n 0, 1, 0, 0, []), some (.getfield 18, 3, 9, 0, []), none, none, some (.aload_n 1, 1, 0, 0, []), some (.iload_n 2, 1, 0, 0, []), some (.invokevirtual 50, 3, 15, 2, []), none, none, some (.invokevirtual 54, 3, 204, 1, []), none, none, some (.ifCond .ne 6, 3, 72, 0, []), none, none, some (.bipush (-3), 2, 0, 0, []), none, some (.ireturn, 1, 0, 0, []), some (.aload_n 1, 1, 0, 0, []), some (.getfield 57, 3, 3, 1, []), none, none, some (.aload_n 1, 1, 0, 0, []), some (.iload 4, 2, 0, 0, []), none, some (.iload_n 3, 1, 0, 0, []), some (.invokestatic 61, 3, 1804, 3, []), none, none, some (.if_icmp .ge 8, 3, 91, 0, []), none, none, some (.bipush (-4), 2, 0, 0, []), none, some (.goto 4, 3, 92, 0, []), none, none, some (.iconst 0, 1, 0, 0, []), some (.ireturn, 1, 0, 0, [])]
def kX9_waterFor : List (Option zi_I) := [some (.iload_n 2, 1, 0, 0, []), some (.iconst 1, 1, 0, 0, []), some (.if_icmp .ne 11, 3, 13, 0, []), none, none, some (.aload_n 0, 1, 0, 0, []), some (.iload_n 1, 1, 0, 0, []), some (.invokevirtual 64, 3, 602, 1, []), none, none, some (.goto 4, 3, 14, 0, []), none, none, some (.iconst 1, 1, 0, 0, []), some (.ireturn, 1, 0, 0, [])]
def kX9_go : List (Option zi_I) := [some (.aload_n 0, 1, 0, 0, []), some (.aload_n 1, 1, 0, 0, []), some (.iload_n 2, 1, 0, 0, []), some (.iload_n 3, 1, 0, 0, []), some (.invokevirtual 68, 3, 1803, 3, []), none, none, some (.istore 4, 2, 0, 0, []), none, some (.iload 4, 2, 0, 0, []), none, some (.ifCond .ge 6, 3, 17, 0, []), none, none, some (.iload 4, 2, 0, 0, []), none, some (.ireturn, 1, 0, 0, []), some (.aload_n 0, 1, 0, 0, []), some (.aload_n 1, 1, 0, 0, []), some (.iload_n 2, 1, 0, 0, []), some (.iload_n 3, 1, 0, 0, []), some (.invokevirtual 40, 3, 1802, 3, []), none, none, some (.istore 5, 2, 0, 0, []), none, some (.aload_n 0, 1, 0, 0, []), some (.aload_n 1, 1, 0, 0, []), some (.iload_n 2, 1, 0, 0, []), some (.iload 5, 2, 0, 0, []), none, some (.iload_n 3, 1, 0, 0, []), some (.invokevirtual 71, 3, 1806, 4, []), none, none, some (.istore 6, 2, 0, 0, []), none, some (.aload_n 1, 1, 0, 0, []), some (.dup, 1, 0, 0, []), some (.getfield 57, 3, 3, 1, []), none, none, some (.aload_n 1, 1, 0, 0, []), some (.iload 5, 2, 0, 0, []), none, some (.iload_n 3, 1, 0, 0, []), some (.invokestatic 61, 3, 1804, 3, []), none, none, some (.isub, 1, 0, 0, []), some (.putfield 57, 3, 3, 1, []), none, none, some (.aload_n 1, 1, 0, 0, []), some (.iload 5, 2, 0, 0, []), none, some (.iload_n 3, 1, 0, 0, []), some (.invokevirtual 75, 3, 603, 2, []), none, none, some (.aload_n 1, 1, 0, 0, []), some (.dup, 1, 0, 0, []), some (.getfield 79, 3, 3, 2, []), none, none, some (.iload 6, 2, 0, 0, []), none, some (.iadd, 1, 0, 0, []), some (.putfield 79, 3, 3, 2, []), none, none, some (.aload_n 1, 1, 0, 0, []), some (.getfield 26, 3, 3, 6, []), none, none, some (.iload_n 2, 1, 0, 0, []), some (.dup2, 1, 0, 0, []), some (.iaload, 1, 0, 0, []), some (.iload_n 3, 1, 0, 0, []), some (.iconst 1, 1, 0, 0, []), some (.if_icmp .ne 7, 3, 87, 0, []), none, none, some (.iconst 1, 1, 0, 0, []), some (.goto 4, 3, 88, 0, []), none, none, some (.iconst (-1), 1, 0, 0, []), some (.iadd, 1, 0, 0, []), some (.iastore, 1, 0, 0, []), some (.iconst 0, 1, 0, 0, []), some (.istore 7, 2, 0, 0, []), none, some (.iload 7, 2, 0, 0, []), none, some (.iconst 4, 1, 0, 0, []), some (.if_icmp .ge 42, 3, 138, 0, []), none, none, some (.aload_n 0, 1, 0, 0, []), some (.getfield 22, 3, 9, 1, []), none, none, some (.getfield 82, 3, 1, 2, []), none, none, some (.iload 7, 2, 0, 0, []), none, some (.iaload, 1, 0, 0, []), some (.istore 8, 2, 0, 0, []), none, some (.aload_n 1, 1, 0, 0, []), some (.getfield 85, 3, 3, 5, []), none, none, some (.iload 8, 2, 0, 0, []), none, some (.bipush 9, 2, 0, 0, []), none, some (.aload_n 1, 1, 0, 0, []), some (.getfield 85, 3, 3, 5, []), none, none, some (.iload 8, 2, 0, 0, []), none, some (.iaload, 1, 0, 0, []), some (.iconst 1, 1, 0, 0, []), some (.iadd, 1, 0, 0, []), some (.invokestatic 88, 3, 9002, 0, []), none, none, some (.iastore, 1, 0, 0, []), some (.iinc 7 1, 3, 0, 0, []), none, none, some (.goto (-42), 3, 93, 0, []), none, none, some (.iload 6, 2, 0, 0, []), none, some (.ireturn, 1, 0, 0, [])]
def kX9_minutesFor : List (Option zi_I) := [some (.aload_n 0, 1, 0, 0, []), some (.getfield 18, 3, 9, 0, []), none, none, some (.aload_n 1, 1, 0, 0, []), some (.iload_n 2, 1, 0, 0, []), some (.invokevirtual 50, 3, 15, 2, []), none, none, some (.istore 5, 2, 0, 0, []), none, some (.aload_n 0, 1, 0, 0, []), some (.getfield 18, 3, 9, 0, []), none, none, some (.getfield 94, 3, 0, 0, []), none, none, some (.astore 6, 2, 0, 0, []), none, some (.aload 6, 2, 0, 0, []), none, some (.iconst 0, 1, 0, 0, []), some (.aload_n 0, 1, 0, 0, []), some (.getfield 18, 3, 9, 0, []), none, none, some (.getfield 98, 3, 0, 2, []), none, none, some (.iload_n 3, 1, 0, 0, []), some (.iaload, 1, 0, 0, []), some (.invokevirtual 101, 3, 1402, 2, []), none, none, some (.aload 6, 2, 0, 0, []), none, some (.iconst 1, 1, 0, 0, []), some (.aload_n 0, 1, 0, 0, []), some (.getfield 18, 3, 9, 0, []), none, none, some (.aload_n 1, 1, 0, 0, []), some (.iload 5, 2, 0, 0, []), none, some (.invokevirtual 106, 3, 17, 2, []), none, none, some (.invokevirtual 101, 3, 1402, 2, []), none, none, some (.aload 6, 2, 0, 0, []), none, some (.iconst 2, 1, 0, 0, []), some (.aload_n 0, 1, 0, 0, []), some (.getfield 18, 3, 9, 0, []), none, none, some (.getfield 109, 3, 0, 6, []), none, none, some (.iload_n 2, 1, 0, 0, []), some (.iaload, 1, 0, 0, []), some (.invokevirtual 101, 3, 1402, 2, []), none, none, some (.aload 6, 2, 0, 0, []), none, some (.iconst 3, 1, 0, 0, []), some (.aload_n 1, 1, 0, 0, []), some (.iload_n 3, 1, 0, 0, []), some (.invokevirtual 64, 3, 602, 1, []), none, none, some (.iload 4, 2, 0, 0, []), none, some (.if_icmp .ne 7, 3, 83, 0, []), none, none, some (.iconst 1, 1, 0, 0, []), some (.goto 4, 3, 84, 0, []), none, none, some (.iconst 0, 1, 0, 0, []), some (.invokevirtual 101, 3, 1402, 2, []), none, none, some (.aload 6, 2, 0, 0, []), none, some (.iconst 4, 1, 0, 0, []), some (.iload 4, 2, 0, 0, []), none, some (.invokevirtual 101, 3, 1402, 2, []), none, none, some (.aload 6, 2, 0, 0, []), none, some (.iconst 5, 1, 0, 0, []), some (.iload 5, 2, 0, 0, []), none, some (.invokestatic 112, 3, 2800, 1, []), none, none, some (.invokevirtual 101, 3, 1402, 2, []), none, none, some (.aload 6, 2, 0, 0, []), none, some (.bipush 6, 2, 0, 0, []), none, some (.aload_n 1, 1, 0, 0, []), some (.getfield 79, 3, 3, 2, []), none, none, some (.bipush 60, 2, 0, 0, []), none, some (.irem, 1, 0, 0, []), some (.invokevirtual 101, 3, 1402, 2, []), none, none, some (.aload 6, 2, 0, 0, []), none, some (.invokevirtual 117, 3, 1403, 0, []), none, none, some (.ireturn, 1, 0, 0, [])]
def kX9_travel : List (Option zi_I) := [some (.aload_n 0, 1, 0, 0, []), some (.iconst 0, 1, 0, 0, []), some (.putfield 121, 3, 9, 4, []), none, none, some (.aload_n 0, 1, 0, 0, []), some (.aload_n 1, 1, 0, 0, []), some (.iload_n 2, 1, 0, 0, []), some (.iload_n 3, 1, 0, 0, []), some (.invokevirtual 124, 3, 1801, 3, []), none, none, some (.istore 4, 2, 0, 0, []), none, some (.iconst 0, 1, 0, 0, []), some (.istore 5, 2, 0, 0, []), none, some (.iload 5, 2, 0, 0, []), none, some (.bipush 8, 2, 0, 0, []), none, some (.if_icmp .ge 47, 3, 68, 0, []), none, none, some (.aload_n 1, 1, 0, 0, []), some (.getfield 26, 3, 3, 6, []), none, none, some (.iload_n 2, 1, 0, 0, []), some (.iaload, 1, 0, 0, []), some (.iload_n 3, 1, 0, 0, []), some (.if_icmp .eq 37, 3, 68, 0, []), none, none, some (.aload_n 0, 1, 0, 0, []), some (.aload_n 1, 1, 0, 0, []), some (.iload_n 2, 1, 0, 0, []), some (.iload 4, 2, 0, 0, []), none, some (.invokevirtual 127, 3, 1805, 3, []), none, none, some (.istore 6, 2, 0, 0, []), none, some (.iload 6, 2, 0, 0, []), none, some (.ifCond .ge 6, 3, 52, 0, []), none, none, some (.iload 6, 2, 0, 0, []), none, some (.ireturn, 1, 0, 0, []), some (.aload_n 0, 1, 0, 0, []), some (.dup, 1, 0, 0, []), some (.getfield 121, 3, 9, 4, []), none, none, some (.iconst 1, 1, 0, 0, []), some (.iadd, 1, 0, 0, []), some (.putfield 121, 3, 9, 4, []), none, none, some (.iinc 5 1, 3, 0, 0, []), none, none, some (.goto (-48), 3, 17, 0, []), none, none, some (.iconst 0, 1, 0, 0, []), some (.ireturn, 1, 0, 0, [])]
def kX9_findWays : List (Option zi_I) := [some (.iconst 0, 1, 0, 0, []), some (.istore_n 2, 1, 0, 0, []), some (.iload_n 2, 1, 0, 0, []), some (.aload_n 0, 1, 0, 0, []), some (.getfield 18, 3, 9, 0, []), none, none, some (.getfield 130, 3, 0, 9, []), none, none, some (.if_icmp .ge 35, 3, 45, 0, []), none, none, some (.aload_n 0, 1, 0, 0, []), some (.getfield 9, 3, 9, 2, []), none, none, some (.iload_n 2, 1, 0, 0, []), some (.aload_n 0, 1, 0, 0, []), some (.aload_n 1, 1, 0, 0, []), some (.iload_n 2, 1, 0, 0, []), some (.iconst 1, 1, 0, 0, []), some (.invokevirtual 133, 3, 1809, 3, []), none, none, some (.iastore, 1, 0, 0, []), some (.aload_n 0, 1, 0, 0, []), some (.getfield 15, 3, 9, 3, []), none, none, some (.iload_n 2, 1, 0, 0, []), some (.aload_n 0, 1, 0, 0, []), some (.aload_n 1, 1, 0, 0, []), some (.iload_n 2, 1, 0, 0, []), some (.iconst 0, 1, 0, 0, []), some (.invokevirtual 133, 3, 1809, 3, []), none, none, some (.iastore, 1, 0, 0, []), some (.iinc 2 1, 3, 0, 0, []), none, none, some (.goto (-40), 3, 2, 0, []), none, none, some (.return_, 1, 0, 0, [])]
def kX9_chordAhead : List (Option zi_I) := [some (.aload_n 0, 1, 0, 0, []), some (.aload_n 1, 1, 0, 0, []), some (.iload_n 2, 1, 0, 0, []), some (.iload_n 3, 1, 0, 0, []), some (.invokevirtual 40, 3, 1802, 3, []), none, none, some (.istore 4, 2, 0, 0, []), none, some (.iload 4, 2, 0, 0, []), none, some (.ifCond .lt 25, 3, 36, 0, []), none, none, some (.aload_n 0, 1, 0, 0, []), some (.aload_n 1, 1, 0, 0, []), some (.iload_n 2, 1, 0, 0, []), some (.iload_n 3, 1, 0, 0, []), some (.invokevirtual 68, 3, 1803, 3, []), none, none, some (.ifCond .ne 15, 3, 36, 0, []), none, none, some (.aload_n 0, 1, 0, 0, []), some (.getfield 18, 3, 9, 0, []), none, none, some (.iload 4, 2, 0, 0, []), none, some (.invokevirtual 136, 3, 20, 1, []), none, none, some (.goto 4, 3, 37, 0, []), none, none, some (.iconst 0, 1, 0, 0, []), some (.ireturn, 1, 0, 0, [])]
def kX9_keptBy : List (Option zi_I) := [some (.iconst 0, 1, 0, 0, []), some (.istore_n 2, 1, 0, 0, []), some (.iconst 0, 1, 0, 0, []), some (.istore_n 3, 1, 0, 0, []), some (.iload_n 3, 1, 0, 0, []), some (.aload_n 0, 1, 0, 0, []), some (.getfield 18, 3, 9, 0, []), none, none, some (.getfield 130, 3, 0, 9, []), none, none, some (.if_icmp .ge 109, 3, 121, 0, []), none, none, some (.aload_n 0, 1, 0, 0, []), some (.getfield 9, 3, 9, 2, []), none, none, some (.iload_n 3, 1, 0, 0, []), some (.iaload, 1, 0, 0, []), some (.aload_n 0, 1, 0, 0, []), some (.getfield 15, 3, 9, 3, []), none, none, some (.iload_n 3, 1, 0, 0, []), some (.iaload, 1, 0, 0, []), some (.ior, 1, 0, 0, []), some (.ifCond .eq 7, 3, 35, 0, []), none, none, some (.iconst 1, 1, 0, 0, []), some (.goto 4, 3, 36, 0, []), none, none, some (.iconst 0, 1, 0, 0, []), some (.istore 4, 2, 0, 0, []), none, some (.aload_n 0, 1, 0, 0, []), some (.getfield 9, 3, 9, 2, []), none, none, some (.iload_n 3, 1, 0, 0, []), some (.iaload, 1, 0, 0, []), some (.ifCond .eq 18, 3, 62, 0, []), none, none, some (.aload_n 0, 1, 0, 0, []), some (.getfield 9, 3, 9, 2, []), none, none, some (.iload_n 3, 1, 0, 0, []), some (.iaload, 1, 0, 0, []), some (.iload_n 1, 1, 0, 0, []), some (.iand, 1, 0, 0, []), some (.ifCond .ne 7, 3, 62, 0, []), none, none, some (.iconst 1, 1, 0, 0, []), some (.goto 4, 3, 63, 0, []), none, none, some (.iconst 0, 1, 0, 0, []), some (.istore 5, 2, 0, 0, []), none, some (.aload_n 0, 1, 0, 0, []), some (.getfield 15, 3, 9, 3, []), none, none, some (.iload_n 3, 1, 0, 0, []), some (.iaload, 1, 0, 0, []), some (.ifCond .eq 18, 3, 89, 0, []), none, none, some (.aload_n 0, 1, 0, 0, []), some (.getfield 15, 3, 9, 3, []), none, none, some (.iload_n 3, 1, 0, 0, []), some (.iaload, 1, 0, 0, []), some (.iload_n 1, 1, 0, 0, []), some (.iand, 1, 0, 0, []), some (.ifCond .ne 7, 3, 89, 0, []), none, none, some (.iconst 1, 1, 0, 0, []), some (.goto 4, 3, 90, 0, []), none, none, some (.iconst 0, 1, 0, 0, []), some (.istore 6, 2, 0, 0, []), none, some (.iload_n 2, 1, 0, 0, []), some (.iload 4, 2, 0, 0, []), none, some (.ifCond .eq 17, 3, 112, 0, []), none, none, some (.iload 5, 2, 0, 0, []), none, some (.ifCond .ne 12, 3, 112, 0, []), none, none, some (.iload 6, 2, 0, 0, []), none, some (.ifCond .ne 7, 3, 112, 0, []), none, none, some (.iconst 1, 1, 0, 0, []), some (.goto 4, 3, 113, 0, []), none, none, some (.iconst 0, 1, 0, 0, []), some (.iadd, 1, 0, 0, []), some (.istore_n 2, 1, 0, 0, []), some (.iinc 3 1, 3, 0, 0, []), none, none, some (.goto (-114), 3, 4, 0, []), none, none, some (.iload_n 2, 1, 0, 0, []), some (.ireturn, 1, 0, 0, [])]
def kX10_init : List (Option zi_I) := [some (.aload_n 0, 1, 0, 0, []), some (.invokespecial 1, 3, 9000, 0, []), none, none, some (.aload_n 0, 1, 0, 0, []), some (.bipush 14, 2, 0, 0, []), none, some (.newarray .int, 2, 0, 0, []), none, some (.putfield 9, 3, 10, 0, []), none, none, some (.aload_n 0, 1, 0, 0, []), some (.bipush 14, 2, 0, 0, []), none, some (.newarray .int, 2, 0, 0, []), none, some (.putfield 13, 3, 10, 1, []), none, none, some (.aload_n 0, 1, 0, 0, []), some (.sipush 450, 3, 0, 0, []), none, none, some (.newarray .int, 2, 0, 0, []), none, some (.putfield 16, 3, 10, 2, []), none, none, some (.return_, 1, 0, 0, [])]
def kX10_read : List (Option zi_I) := [some (.aload_n 1, 1, 0, 0, []), some (.bipush 14, 2, 0, 0, []), none, some (.invokevirtual 19, 3, 1605, 1, []), none, none, some (.aload_n 0, 1, 0, 0, []), some (.iconst 0, 1, 0, 0, []), some (.putfield 25, 3, 10, 3, []), none, none, some (.aload_n 0, 1, 0, 0, []), some (.iconst 0, 1, 0, 0, []), some (.putfield 29, 3, 10, 4, []), none, none, some (.iconst 0, 1, 0, 0, []), some (.istore_n 2, 1, 0, 0, []), some (.iload_n 2, 1, 0, 0, []), some (.bipush 14, 2, 0, 0, []), none, some (.if_icmp .ge 97, 3, 118, 0, []), none, none, some (.aload_n 1, 1, 0, 0, []), some (.bipush 117, 2, 0, 0, []), none, some (.bipush 117, 2, 0, 0, []), none, some (.invokevirtual 32, 3, 1610, 2, []), none, none, some (.ifCond .lt 26, 3, 58, 0, []), none, none, some (.aload_n 0, 1, 0, 0, []), some (.getfield 9, 3, 10, 0, []), none, none, some (.aload_n 0, 1, 0, 0, []), some (.getfield 25, 3, 10, 3, []), none, none, some (.iload_n 2, 1, 0, 0, []), some (.iastore, 1, 0, 0, []), some (.aload_n 0, 1, 0, 0, []), some (.dup, 1, 0, 0, []), some (.getfield 25, 3, 10, 3, []), none, none, some (.iconst 1, 1, 0, 0, []), some (.iadd, 1, 0, 0, []), some (.putfield 25, 3, 10, 3, []), none, none, some (.goto 57, 3, 112, 0, []), none, none, some (.aload_n 1, 1, 0, 0, []), some (.bipush 100, 2, 0, 0, []), none, some (.bipush 100, 2, 0, 0, []), none, some (.invokevirtual 32, 3, 1610, 2, []), none, none, some (.ifCond .lt 26, 3, 92, 0, []), none, none, some (.aload_n 0, 1, 0, 0, []), some (.getfield 13, 3, 10, 1, []), none, none, some (.aload_n 0, 1, 0, 0, []), some (.getfield 29, 3, 10, 4, []), none, none, some (.iload_n 2, 1, 0, 0, []), some (.iastore, 1, 0, 0, []), some (.aload_n 0, 1, 0, 0, []), some (.dup, 1, 0, 0, []), some (.getfield 29, 3, 10, 4, []), none, none, some (.iconst 1, 1, 0, 0, []), some (.iadd, 1, 0, 0, []), some (.putfield 29, 3, 10, 4, []), none, none, some (.goto 23, 3, 112, 0, []), none, none, some (.iload_n 2, 1, 0, 0, []), some (.ifCond .le 14, 3, 107, 0, []), none, none, some (.aload_n 1, 1, 0, 0, []), some (.invokevirtual 36, 3, 1608, 0, []), none, none, some (.ifCond .eq 7, 3, 107, 0, []), none, none, some (.iconst 0, 1, 0, 0, []), some (.goto 7, 3, 111, 0, []), none, none, some (.aload_n 1, 1, 0, 0, []), some (.invokevirtual 40, 3, 1609, 0, []), none, none, some (.ireturn, 1, 0, 0, []), some (.iinc 2 1, 3, 0, 0, []), none, none, some (.goto (-97), 3, 18, 0, []), none, none, some (.aload_n 1, 1, 0, 0, []), some (.invokevirtual 36, 3, 1608, 0, []), none, none, some (.ifCond .eq 7, 3, 129, 0, []), none, none, some (.iconst 0, 1, 0, 0, []), some (.goto 7, 3, 133, 0, []), none, none, some (.aload_n 1, 1, 0, 0, []), some (.invokevirtual 40, 3, 1609, 0, []), none, none, some (.ireturn, 1, 0, 0, [])]
def kX10_order : List (Option zi_I) := [some (.aload_n 0, 1, 0, 0, []), some (.invokevirtual 44, 3, 2004, 0, []), none, none, some (.aload_n 0, 1, 0, 0, []), some (.iconst 0, 1, 0, 0, []), some (.iconst 0, 1, 0, 0, []), some (.iload_n 1, 1, 0, 0, []), some (.invokevirtual 47, 3, 2008, 3, []), none, none, some (.istore_n 3, 1, 0, 0, []), some (.aload_n 2, 1, 0, 0, []), some (.iload_n 3, 1, 0, 0, []), some (.bipush 100, 2, 0, 0, []), none, some (.irem, 1, 0, 0, []), some (.i2l, 1, 0, 0, []), some (.invokevirtual 51, 3, 1005, 1, []), none, none, some (.iconst 0, 1, 0, 0, []), some (.istore 4, 2, 0, 0, []), none, some (.iconst 0, 1, 0, 0, []), some (.istore 5, 2, 0, 0, []), none, some (.iload_n 1, 1, 0, 0, []), some (.istore 6, 2, 0, 0, []), none, some (.iconst 0, 1, 0, 0, []), some (.istore 7, 2, 0, 0, []), none, some (.iload 7, 2, 0, 0, []), none, some (.aload_n 0, 1, 0, 0, []), some (.getfield 25, 3, 10, 3, []), none, none, some (.aload_n 0, 1, 0, 0, []), some (.getfield 29, 3, 10, 4, []), none, none, some (.iadd, 1, 0, 0, []), some (.if_icmp .ge 61, 3, 105, 0, []), none, none, some (.aload_n 0, 1, 0, 0, []), some (.iload 4, 2, 0, 0, []), none, some (.iload 5, 2, 0, 0, []), none, some (.iload 6, 2, 0, 0, []), none, some (.invokevirtual 57, 3, 2003, 3, []), none, none, some (.ifCond .eq 24, 3, 81, 0, []), none, none, some (.aload_n 2, 1, 0, 0, []), some (.aload_n 0, 1, 0, 0, []), some (.getfield 9, 3, 10, 0, []), none, none, some (.iload 4, 2, 0, 0, []), none, some (.iaload, 1, 0, 0, []), some (.i2l, 1, 0, 0, []), some (.invokevirtual 61, 3, 1004, 1, []), none, none, some (.iinc 4 1, 3, 0, 0, []), none, none, some (.iconst 1, 1, 0, 0, []), some (.istore 6, 2, 0, 0, []), none, some (.goto 21, 3, 99, 0, []), none, none, some (.aload_n 2, 1, 0, 0, []), some (.aload_n 0, 1, 0, 0, []), some (.getfield 13, 3, 10, 1, []), none, none, some (.iload 5, 2, 0, 0, []), none, some (.iaload, 1, 0, 0, []), some (.i2l, 1, 0, 0, []), some (.invokevirtual 61, 3, 1004, 1, []), none, none, some (.iinc 5 1, 3, 0, 0, []), none, none, some (.iconst 0, 1, 0, 0, []), some (.istore 6, 2, 0, 0, []), none, some (.iinc 7 1, 3, 0, 0, []), none, none, some (.goto (-69), 3, 33, 0, []), none, none, some (.iload_n 3, 1, 0, 0, []), some (.bipush 100, 2, 0, 0, []), none, some (.idiv, 1, 0, 0, []), some (.ireturn, 1, 0, 0, [])]
def kX10_goesUpNext : List (Option zi_I) := [some (.iload_n 1, 1, 0, 0, []), some (.aload_n 0, 1, 0, 0, []), some (.getfield 25, 3, 10, 3, []), none, none, some (.if_icmp .ge 11, 3, 16, 0, []), none, none, some (.iload_n 2, 1, 0, 0, []), some (.aload_n 0, 1, 0, 0, []), some (.getfield 29, 3, 10, 4, []), none, none, some (.if_icmp .lt 17, 3, 30, 0, []), none, none, some (.iload_n 1, 1, 0, 0, []), some (.aload_n 0, 1, 0, 0, []), some (.getfield 25, 3, 10, 3, []), none, none, some (.if_icmp .ge 7, 3, 28, 0, []), none, none, some (.iconst 1, 1, 0, 0, []), some (.goto 4, 3, 29, 0, []), none, none, some (.iconst 0, 1, 0, 0, []), some (.ireturn, 1, 0, 0, []), some (.aload_n 0, 1, 0, 0, []), some (.iload_n 1, 1, 0, 0, []), some (.iload_n 2, 1, 0, 0, []), some (.iload_n 3, 1, 0, 0, []), some (.invokevirtual 64, 3, 2006, 3, []), none, none, some (.istore 4, 2, 0, 0, []), none, some (.aload_n 0, 1, 0, 0, []), some (.iload_n 1, 1, 0, 0, []), some (.iload_n 2, 1, 0, 0, []), some (.iload_n 3, 1, 0, 0, []), some (.invokevirtual 67, 3, 2007, 3, []), none, none, some (.istore 5, 2, 0, 0, []), none, some (.iload 4, 2, 0, 0, []), none, some (.iload 5, 2, 0, 0, []), none, some (.if_icmp .lt 25, 3, 77, 0, []), none, none, some (.iload 4, 2, 0, 0, []), none, some (.iload 5, 2, 0, 0, []), none, some (.if_icmp .ne 22, 3, 81, 0, []), none, none, some (.aload_n 0, 1, 0, 0, []), some (.getfield 9, 3, 10, 0, []), none, none, some (.iload_n 1, 1, 0, 0, []), some (.iaload, 1, 0, 0, []), some (.aload_n 0, 1, 0, 0, []), some (.getfield 13, 3, 10, 1, []), none, none, some (.iload_n 2, 1, 0, 0, []), some (.iaload, 1, 0, 0, []), some (.if_icmp .ge 7, 3, 81, 0, []), none, none, some (.iconst 1, 1, 0, 0, []), some (.goto 4, 3, 82, 0, []), none, none, some (.iconst 0, 1, 0, 0, []), some (.ireturn, 1, 0, 0, [])]
def kX10_findCosts : List (Option zi_I) := [some (.aload_n 0, 1, 0, 0, []), some (.getfield 25, 3, 10, 3, []), none, none, some (.istore_n 1, 1, 0, 0, []), some (.iload_n 1, 1, 0, 0, []), some (.ifCond .lt 55, 3, 61, 0, []), none, none, some (.aload_n 0, 1, 0, 0, []), some (.getfield 29, 3, 10, 4, []), none, none, some (.istore_n 2, 1, 0, 0, []), some (.iload_n 2, 1, 0, 0, []), some (.ifCond .lt 40, 3, 55, 0, []), none, none, some (.iconst 0, 1, 0, 0, []), some (.istore_n 3, 1, 0, 0, []), some (.iload_n 3, 1, 0, 0, []), some (.iconst 2, 1, 0, 0, []), some (.if_icmp .ge 27, 3, 49, 0, []), none, none, some (.aload_n 0, 1, 0, 0, []), some (.getfield 16, 3, 10, 2, []), none, none, some (.iload_n 1, 1, 0, 0, []), some (.iload_n 2, 1, 0, 0, []), some (.iload_n 3, 1, 0, 0, []), some (.invokestatic 70, 3, 2009, 3, []), none, none, some (.aload_n 0, 1, 0, 0, []), some (.iload_n 1, 1, 0, 0, []), some (.iload_n 2, 1, 0, 0, []), some (.iload_n 3, 1, 0, 0, []), some (.invokevirtual 73, 3, 2005, 3, []), none, none, some (.iastore, 1, 0, 0, []), some (.iinc 3 1, 3, 0, 0, []), none, none, some (.goto (-26), 3, 20, 0, []), none, none, some (.iinc 2 (-1), 3, 0, 0, []), none, none, some (.goto (-38), 3, 14, 0, []), none, none, some (.iinc 1 (-1), 3, 0, 0, []), none, none, some (.goto (-53), 3, 5, 0, []), none, none, some (.return_, 1, 0, 0, [])]
def kX10_costNext : List (Option zi_I) := [some (.iload_n 1, 1, 0, 0, []), some (.aload_n 0, 1, 0, 0, []), some (.getfield 25, 3, 10, 3, []), none, none, some (.if_icmp .lt 23, 3, 28, 0, []), none, none, some (.iload_n 2, 1, 0, 0, []), some (.aload_n 0, 1, 0, 0, []), some (.getfield 29, 3, 10, 4, []), none, none, some (.if_icmp .lt 7, 3, 20, 0, []), none, none, some (.iconst 0, 1, 0, 0, []), some (.goto 10, 3, 27, 0, []), none, none, some (.aload_n 0, 1, 0, 0, []), some (.iload_n 1, 1, 0, 0, []), some (.iload_n 2, 1, 0, 0, []), some (.iload_n 3, 1, 0, 0, []), some (.invokevirtual 67, 3, 2007, 3, []), none, none, some (.ireturn, 1, 0, 0, []), some (.aload_n 0, 1, 0, 0, []), some (.iload_n 1, 1, 0, 0, []), some (.iload_n 2, 1, 0, 0, []), some (.iload_n 3, 1, 0, 0, []), some (.invokevirtual 64, 3, 2006, 3, []), none, none, some (.istore 4, 2, 0, 0, []), none, some (.iload_n 2, 1, 0, 0, []), some (.aload_n 0, 1, 0, 0, []), some (.getfield 29, 3, 10, 4, []), none, none, some (.if_icmp .lt 8, 3, 50, 0, []), none, none, some (.iload 4, 2, 0, 0, []), none, some (.goto 15, 3, 62, 0, []), none, none, some (.iload 4, 2, 0, 0, []), none, some (.aload_n 0, 1, 0, 0, []), some (.iload_n 1, 1, 0, 0, []), some (.iload_n 2, 1, 0, 0, []), some (.iload_n 3, 1, 0, 0, []), some (.invokevirtual 67, 3, 2007, 3, []), none, none, some (.invokestatic 76, 3, 9002, 0, []), none, none, some (.ireturn, 1, 0, 0, [])]
def kX10_upCost : List (Option zi_I) := [some (.iload_n 3, 1, 0, 0, []), some (.bipush 101, 2, 0, 0, []), none, some (.imul, 1, 0, 0, []), some (.aload_n 0, 1, 0, 0, []), some (.iload_n 1, 1, 0, 0, []), some (.iconst 1, 1, 0, 0, []), some (.iadd, 1, 0, 0, []), some (.iload_n 2, 1, 0, 0, []), some (.iconst 1, 1, 0, 0, []), some (.invokevirtual 47, 3, 2008, 3, []), none, none, some (.iadd, 1, 0, 0, []), some (.ireturn, 1, 0, 0, [])]
def kX10_downCost : List (Option zi_I) := [some (.bipush 101, 2, 0, 0, []), none, some (.iload_n 3, 1, 0, 0, []), some (.isub, 1, 0, 0, []), some (.aload_n 0, 1, 0, 0, []), some (.iload_n 1, 1, 0, 0, []), some (.iload_n 2, 1, 0, 0, []), some (.iconst 1, 1, 0, 0, []), some (.iadd, 1, 0, 0, []), some (.iconst 0, 1, 0, 0, []), some (.invokevirtual 47, 3, 2008, 3, []), none, none, some (.iadd, 1, 0, 0, []), some (.ireturn, 1, 0, 0, [])]
def kX10_costAfter : List (Option zi_I) := [some (.aload_n 0, 1, 0, 0, []), some (.getfield 16, 3, 10, 2, []), none, none, some (.iload_n 1, 1, 0, 0, []), some (.iload_n 2, 1, 0, 0, []), some (.iload_n 3, 1, 0, 0, []), some (.invokestatic 70, 3, 2009, 3, []), none, none, some (.iaload, 1, 0, 0, []), some (.ireturn, 1, 0, 0, [])]
def kX10_slot : List (Option zi_I) := [some (.iload_n 0, 1, 0, 0, []), some (.bipush 15, 2, 0, 0, []), none, some (.imul, 1, 0, 0, []), some (.iload_n 1, 1, 0, 0, []), some (.iadd, 1, 0, 0, []), some (.iconst 2, 1, 0, 0, []), some (.imul, 1, 0, 0, []), some (.iload_n 2, 1, 0, 0, []), some (.iadd, 1, 0, 0, []), some (.ireturn, 1, 0, 0, [])]
def kX11_init : List (Option zi_I) := [some (.aload_n 0, 1, 0, 0, []), some (.invokespecial 1, 3, 9000, 0, []), none, none, some (.aload_n 0, 1, 0, 0, []), some (.new 7, 3, 8, 0, []), none, none, some (.dup, 1, 0, 0, []), some (.invokespecial 9, 3, 1600, 0, []), none, none, some (.putfield 10, 3, 11, 0, []), none, none, some (.aload_n 0, 1, 0, 0, []), some (.new 16, 3, 5, 0, []), none, none, some (.dup, 1, 0, 0, []), some (.invokespecial 18, 3, 1000, 0, []), none, none, some (.putfield 19, 3, 11, 1, []), none, none, some (.aload_n 0, 1, 0, 0, []), some (.new 23, 3, 0, 0, []), none, none, some (.dup, 1, 0, 0, []), some (.invokespecial 25, 3, 0, 0, []), none, none, some (.putfield 26, 3, 11, 2, []), none, none, some (.aload_n 0, 1, 0, 0, []), some (.new 30, 3, 3, 0, []), none, none, some (.dup, 1, 0, 0, []), some (.invokespecial 32, 3, 600, 0, []), none, none, some (.putfield 33, 3, 11, 3, []), none, none, some (.aload_n 0, 1, 0, 0, []), some (.new 30, 3, 3, 0, []), none, none, some (.dup, 1, 0, 0, []), some (.invokespecial 32, 3, 600, 0, []), none, none, some (.putfield 37, 3, 11, 4, []), none, none, some (.aload_n 0, 1, 0, 0, []), some (.new 30, 3, 3, 0, []), none, none, some (.dup, 1, 0, 0, []), some (.invokespecial 32, 3, 600, 0, []), none, none, some (.putfield 40, 3, 11, 5, []), none, none, some (.aload_n 0, 1, 0, 0, []), some (.new 43, 3, 1, 0, []), none, none, some (.dup, 1, 0, 0, []), some (.aload_n 0, 1, 0, 0, []), some (.getfield 26, 3, 11, 2, []), none, none, some (.invokespecial 45, 3, 200, 1, []), none, none, some (.putfield 48, 3, 11, 6, []), none, none, some (.aload_n 0, 1, 0, 0, []), some (.new 52, 3, 9, 0, []), none, none, some (.dup, 1, 0, 0, []), some (.aload_n 0, 1, 0, 0, []), some (.getfield 26, 3, 11, 2, []), none, none, some (.aload_n 0, 1, 0, 0, []), some (.getfield 48, 3, 11, 6, []), none, none, some (.invokespecial 54, 3, 1800, 2, []), none, none, some (.putfield 57, 3, 11, 7, []), none, none, some (.aload_n 0, 1, 0, 0, []), some (.new 61, 3, 2, 0, []), none, none, some (.dup, 1, 0, 0, []), some (.aload_n 0, 1, 0, 0, []), some (.getfield 26, 3, 11, 2, []), none, none, some (.aload_n 0, 1, 0, 0, []), some (.getfield 48, 3, 11, 6, []), none, none, some (.invokespecial 63, 3, 400, 2, []), none, none, some (.putfield 64, 3, 11, 8, []), none, none, some (.aload_n 0, 1, 0, 0, []), some (.new 68, 3, 4, 0, []), none, none, some (.dup, 1, 0, 0, []), some (.aload_n 0, 1, 0, 0, []), some (.getfield 26, 3, 11, 2, []), none, none, some (.invokespecial 70, 3, 800, 1, []), none, none, some (.putfield 71, 3, 11, 9, []), none, none, some (.aload_n 0, 1, 0, 0, []), some (.new 75, 3, 10, 0, []), none, none, some (.dup, 1, 0, 0, []), some (.invokespecial 77, 3, 2000, 0, []), none, none, some (.putfield 78, 3, 11, 10, []), none, none, some (.aload_n 0, 1, 0, 0, []), some (.new 82, 3, 6, 0, []), none, none, some (.dup, 1, 0, 0, []), some (.invokespecial 84, 3, 1200, 0, []), none, none, some (.putfield 85, 3, 11, 11, []), none, none, some (.aload_n 0, 1, 0, 0, []), some (.iconst 3, 1, 0, 0, []), some (.anewarray 30, 3, 0, 0, []), none, none, some (.putfield 89, 3, 11, 12, []), none, none, some (.aload_n 0, 1, 0, 0, []), some (.bipush 60, 2, 0, 0, []), none, some (.newarray .int, 2, 0, 0, []), none, some (.putfield 93, 3, 11, 13, []), none, none, some (.iconst 0, 1, 0, 0, []), some (.istore_n 1, 1, 0, 0, []), some (.iload_n 1, 1, 0, 0, []), some (.iconst 3, 1, 0, 0, []), some (.if_icmp .ge 22, 3, 202, 0, []), none, none, some (.aload_n 0, 1, 0, 0, []), some (.getfield 89, 3, 11, 12, []), none, none, some (.iload_n 1, 1, 0, 0, []), some (.new 30, 3, 3, 0, []), none, none, some (.dup, 1, 0, 0, []), some (.invokespecial 32, 3, 600, 0, []), none, none, some (.aastore, 1, 0, 0, []), some (.iinc 1 1, 3, 0, 0, []), none, none, some (.goto (-21), 3, 178, 0, []), none, none, some (.return_, 1, 0, 0, [])]
def kX11_sign : List (Option zi_I) := [some (.aload_n 0, 1, 0, 0, []), some (.getfield 10, 3, 11, 0, []), none, none, some (.iload_n 1, 1, 0, 0, []), some (.invokevirtual 97, 3, 1602, 1, []), none, none, some (.ifCond .eq 13, 3, 21, 0, []), none, none, some (.aload_n 0, 1, 0, 0, []), some (.getfield 10, 3, 11, 0, []), none, none, some (.invokevirtual 101, 3, 1601, 0, []), none, none, some (.goto 4, 3, 22, 0, []), none, none, some (.iconst (-1), 1, 0, 0, []), some (.ireturn, 1, 0, 0, [])]
def kX11_end : List (Option zi_I) := [some (.aload_n 0, 1, 0, 0, []), some (.getfield 10, 3, 11, 0, []), none, none, some (.iload_n 1, 1, 0, 0, []), some (.invokevirtual 105, 3, 1603, 1, []), none, none, some (.ireturn, 1, 0, 0, [])]
def kX11_locks : List (Option zi_I) := [some (.aload_n 0, 1, 0, 0, []), some (.iconst 0, 1, 0, 0, []), some (.bipush 47, 2, 0, 0, []), none, some (.invokevirtual 108, 3, 2212, 2, []), none, none, some (.ireturn, 1, 0, 0, [])]
def kX11_singers : List (Option zi_I) := [some (.aload_n 0, 1, 0, 0, []), some (.iconst 1, 1, 0, 0, []), some (.bipush 63, 2, 0, 0, []), none, some (.invokevirtual 108, 3, 2212, 2, []), none, none, some (.ireturn, 1, 0, 0, [])]
def kX11_barges : List (Option zi_I) := [some (.aload_n 0, 1, 0, 0, []), some (.iconst 2, 1, 0, 0, []), some (.bipush 11, 2, 0, 0, []), none, some (.invokevirtual 108, 3, 2212, 2, []), none, none, some (.ireturn, 1, 0, 0, [])]
def kX11_rule : List (Option zi_I) := [some (.aload_n 0, 1, 0, 0, []), some (.getfield 26, 3, 11, 2, []), none, none, some (.getfield 112, 3, 0, 0, []), none, none, some (.aload_n 0, 1, 0, 0, []), some (.getfield 10, 3, 11, 0, []), none, none, some (.invokevirtual 116, 3, 1401, 1, []), none, none, some (.istore_n 1, 1, 0, 0, []), some (.aload_n 0, 1, 0, 0, []), some (.getfield 10, 3, 11, 0, []), none, none, some (.invokevirtual 122, 3, 1604, 0, []), none, none, some (.iload_n 1, 1, 0, 0, []), some (.ireturn, 1, 0, 0, [])]
def kX11_lock : List (Option zi_I) := [some (.aload_n 0, 1, 0, 0, []), some (.getfield 26, 3, 11, 2, []), none, none, some (.iload_n 1, 1, 0, 0, []), some (.invokevirtual 125, 3, 1, 1, []), none, none, some (.ifCond .eq 12, 3, 20, 0, []), none, none, some (.iload_n 2, 1, 0, 0, []), some (.ifCond .lt 8, 3, 20, 0, []), none, none, some (.iload_n 2, 1, 0, 0, []), some (.iconst 5, 1, 0, 0, []), some (.if_icmp .le 11, 3, 28, 0, []), none, none, none, none, none, some (.dup, 1, 0, 0, []), none, none, none, none, some (.iload_n 2, 1, 0, 0, []), some (.iconst 4, 1, 0, 0, []), some (.if_icmp .ge 17, 3, 47, 0, []), none, none, some (.aload_n 0, 1, 0, 0, []), some (.getfield 26, 3, 11, 2, []), none, none, some (.getfield 131, 3, 0, 1, []), none, none, some (.iload_n 1, 1, 0, 0, []), some (.iconst 4, 1, 0, 0, []), some (.imul, 1, 0, 0, []), some (.iload_n 2, 1, 0, 0, []), some (.iadd, 1, 0, 0, []), some (.iaload, 1, 0, 0, []), some (.ireturn, 1, 0, 0, []), some (.iload_n 2, 1, 0, 0, []), some (.iconst 4, 1, 0, 0, []), some (.if_icmp .ne 15, 3, 64, 0, []), none, none, some (.aload_n 0, 1, 0, 0, []), some (.getfield 26, 3, 11, 2, []), none, none, some (.getfield 134, 3, 0, 2, []), none, none, some (.iload_n 1, 1, 0, 0, []), some (.iaload, 1, 0, 0, []), some (.goto 11, 3, 72, 0, []), none, none, some (.aload_n 0, 1, 0, 0, []), some (.getfield 33, 3, 11, 3, []), none, none, some (.iload_n 1, 1, 0, 0, []), some (.invokevirtual 137, 3, 602, 1, []), none, none, some (.ireturn, 1, 0, 0, [])]
def kX11_singer : List (Option zi_I) := [some (.aload_n 0, 1, 0, 0, []), some (.getfield 26, 3, 11, 2, []), none, none, some (.iload_n 1, 1, 0, 0, []), some (.invokevirtual 141, 3, 3, 1, []), none, none, some (.ifCond .eq 12, 3, 20, 0, []), none, none, some (.iload_n 2, 1, 0, 0, []), some (.ifCond .lt 8, 3, 20, 0, []), none, none, some (.iload_n 2, 1, 0, 0, []), some (.iconst 5, 1, 0, 0, []), some (.if_icmp .le 11, 3, 28, 0, []), none, none, none, none, none, some (.dup, 1, 0, 0, []), none, none, none, none, some (.iload_n 2, 1, 0, 0, []), some (.tableswitch 84 0 4 #[35, 45, 55, 65, 75], 35, 113, 0, [(0, 64), (1, 74), (2, 84), (3, 94), (4, 104)]), none, none, none, none, none, none, none, none, none, none, none, none, none, none, none, none, none, none, none, none, none, none, none, none, none, none, none, none, none, none, none, none, none, none, some (.aload_n 0, 1, 0, 0, []), some (.getfield 26, 3, 11, 2, []), none, none, some (.getfield 144, 3, 0, 3, []), none, none, some (.iload_n 1, 1, 0, 0, []), some (.iaload, 1, 0, 0, []), some (.ireturn, 1, 0, 0, []), some (.aload_n 0, 1, 0, 0, []), some (.getfield 26, 3, 11, 2, []), none, none, some (.getfield 147, 3, 0, 4, []), none, none, some (.iload_n 1, 1, 0, 0, []), some (.iaload, 1, 0, 0, []), some (.ireturn, 1, 0, 0, []), some (.aload_n 0, 1, 0, 0, []), some (.getfield 26, 3, 11, 2, []), none, none, some (.getfield 150, 3, 0, 5, []), none, none, some (.iload_n 1, 1, 0, 0, []), some (.iaload, 1, 0, 0, []), some (.ireturn, 1, 0, 0, []), some (.aload_n 0, 1, 0, 0, []), some (.getfield 33, 3, 11, 3, []), none, none, some (.getfield 153, 3, 3, 5, []), none, none, some (.iload_n 1, 1, 0, 0, []), some (.iaload, 1, 0, 0, []), some (.ireturn, 1, 0, 0, []), some (.aload_n 0, 1, 0, 0, []), some (.getfield 33, 3, 11, 3, []), none, none, some (.iload_n 1, 1, 0, 0, []), some (.invokevirtual 156, 3, 604, 1, []), none, none, some (.ireturn, 1, 0, 0, []), some (.aload_n 0, 1, 0, 0, []), some (.getfield 33, 3, 11, 3, []), none, none, some (.getfield 159, 3, 3, 4, []), none, none, some (.iload_n 1, 1, 0, 0, []), some (.iaload, 1, 0, 0, []), some (.ireturn, 1, 0, 0, [])]
def kX11_barge : List (Option zi_I) := [some (.aload_n 0, 1, 0, 0, []), some (.getfield 26, 3, 11, 2, []), none, none, some (.iload_n 1, 1, 0, 0, []), some (.invokevirtual 162, 3, 4, 1, []), none, none, some (.ifCond .eq 12, 3, 20, 0, []), none, none, some (.iload_n 2, 1, 0, 0, []), some (.ifCond .lt 8, 3, 20, 0, []), none, none, some (.iload_n 2, 1, 0, 0, []), some (.iconst 3, 1, 0, 0, []), some (.if_icmp .le 11, 3, 28, 0, []), none, none, none, none, none, some (.dup, 1, 0, 0, []), none, none, none, none, some (.iload_n 2, 1, 0, 0, []), some (.tableswitch 57 0 2 #[27, 37, 47], 27, 86, 0, [(0, 56), (1, 66), (2, 76)]), none, none, none, none, none, none, none, none, none, none, none, none, none, none, none, none, none, none, none, none, none, none, none, none, none, none, some (.aload_n 0, 1, 0, 0, []), some (.getfield 33, 3, 11, 3, []), none, none, some (.getfield 165, 3, 3, 6, []), none, none, some (.iload_n 1, 1, 0, 0, []), some (.iaload, 1, 0, 0, []), some (.ireturn, 1, 0, 0, []), some (.aload_n 0, 1, 0, 0, []), some (.getfield 26, 3, 11, 2, []), none, none, some (.getfield 168, 3, 0, 6, []), none, none, some (.iload_n 1, 1, 0, 0, []), some (.iaload, 1, 0, 0, []), some (.ireturn, 1, 0, 0, []), some (.aload_n 0, 1, 0, 0, []), some (.getfield 33, 3, 11, 3, []), none, none, some (.getfield 171, 3, 3, 7, []), none, none, some (.iload_n 1, 1, 0, 0, []), some (.iaload, 1, 0, 0, []), some (.ireturn, 1, 0, 0, []), some (.aload_n 0, 1, 0, 0, []), some (.getfield 26, 3, 11, 2, []), none, none, some (.aload_n 0, 1, 0, 0, []), some (.getfield 33, 3, 11, 3, []), none, none, some (.iload_n 1, 1, 0, 0, []), some (.invokevirtual 174, 3, 15, 2, []), none, none, some (.ireturn, 1, 0, 0, [])]
def kX11_set : List (Option zi_I) := [some (.iload_n 1, 1, 0, 0, []), some (.ifCond .ne 32, 3, 33, 0, []), none, none, some (.iload_n 2, 1, 0, 0, []), some (.ifCond .lt 28, 3, 33, 0, []), none, none, some (.iload_n 2, 1, 0, 0, []), some (.sipush 999, 3, 0, 0, []), none, none, some (.if_icmp .gt 21, 3, 33, 0, []), none, none, some (.aload_n 0, 1, 0, 0, []), some (.getfield 33, 3, 11, 3, []), none, none, some (.getfield 178, 3, 3, 1, []), none, none, some (.istore_n 3, 1, 0, 0, []), some (.aload_n 0, 1, 0, 0, []), some (.getfield 33, 3, 11, 3, []), none, none, some (.iload_n 2, 1, 0, 0, []), some (.putfield 178, 3, 3, 1, []), none, none, some (.iload_n 3, 1, 0, 0, []), some (.ireturn, 1, 0, 0, []), some (.iload_n 1, 1, 0, 0, []), some (.iconst 1, 1, 0, 0, []), some (.if_icmp .ne 31, 3, 66, 0, []), none, none, some (.iload_n 2, 1, 0, 0, []), some (.ifCond .lt 27, 3, 66, 0, []), none, none, some (.iload_n 2, 1, 0, 0, []), some (.ldc 182, 2, 67108864, 0, []), none, some (.if_icmp .ge 21, 3, 66, 0, []), none, none, some (.aload_n 0, 1, 0, 0, []), some (.getfield 26, 3, 11, 2, []), none, none, some (.getfield 183, 3, 0, 10, []), none, none, some (.istore_n 3, 1, 0, 0, []), some (.aload_n 0, 1, 0, 0, []), some (.getfield 26, 3, 11, 2, []), none, none, some (.iload_n 2, 1, 0, 0, []), some (.putfield 183, 3, 0, 10, []), none, none, some (.iload_n 3, 1, 0, 0, []), some (.ireturn, 1, 0, 0, []), some (.iconst (-1), 1, 0, 0, []), some (.ireturn, 1, 0, 0, [])]
def kX11_sheet : List (Option zi_I) := [some (.iload_n 1, 1, 0, 0, []), some (.ifCond .lt 14, 3, 15, 0, []), none, none, some (.iload_n 1, 1, 0, 0, []), some (.iconst 3, 1, 0, 0, []), some (.if_icmp .gt 9, 3, 15, 0, []), none, none, some (.iload_n 2, 1, 0, 0, []), some (.bipush 8, 2, 0, 0, []), none, some (.if_icmp .le 5, 3, 17, 0, []), none, none, some (.iconst (-1), 1, 0, 0, []), some (.ireturn, 1, 0, 0, []), some (.iload_n 1, 1, 0, 0, []), some (.iconst 3, 1, 0, 0, []), some (.if_icmp .ne 18, 3, 37, 0, []), none, none, some (.aload_n 0, 1, 0, 0, []), some (.getfield 26, 3, 11, 2, []), none, none, some (.iload_n 1, 1, 0, 0, []), some (.iconst 0, 1, 0, 0, []), some (.iconst 0, 1, 0, 0, []), some (.iconst 0, 1, 0, 0, []), some (.invokevirtual 186, 3, 13, 4, []), none, none, some (.pop, 1, 0, 0, []), some (.bipush (-3), 2, 0, 0, []), none, some (.ireturn, 1, 0, 0, []), some (.iload_n 2, 1, 0, 0, []), some (.ifCond .ge 8, 3, 46, 0, []), none, none, some (.bipush (-2), 2, 0, 0, []), none, some (.goto 15, 3, 58, 0, []), none, none, some (.aload_n 0, 1, 0, 0, []), some (.getfield 26, 3, 11, 2, []), none, none, some (.iload_n 1, 1, 0, 0, []), some (.iload_n 2, 1, 0, 0, []), some (.iload_n 3, 1, 0, 0, []), some (.iload 4, 2, 0, 0, []), none, some (.invokevirtual 186, 3, 13, 4, []), none, none, some (.ireturn, 1, 0, 0, [])]
def kX11_tellOf : List (Option zi_I) := [some (.aload_n 0, 1, 0, 0, []), some (.getfield 10, 3, 11, 0, []), none, none, some (.iload_n 2, 1, 0, 0, []), some (.invokevirtual 190, 3, 1605, 1, []), none, none, some (.aload_n 0, 1, 0, 0, []), some (.getfield 10, 3, 11, 0, []), none, none, some (.invokevirtual 194, 3, 1608, 0, []), none, none, some (.ifCond .eq 7, 3, 22, 0, []), none, none, some (.iconst 0, 1, 0, 0, []), some (.goto 8, 3, 27, 0, []), none, none, some (.aload_n 0, 1, 0, 0, []), some (.iload_n 1, 1, 0, 0, []), some (.invokevirtual 198, 3, 2213, 1, []), none, none, some (.istore_n 3, 1, 0, 0, []), some (.aload_n 0, 1, 0, 0, []), some (.getfield 10, 3, 11, 0, []), none, none, some (.invokevirtual 122, 3, 1604, 0, []), none, none, some (.iload_n 3, 1, 0, 0, []), some (.ifCond .le 24, 3, 60, 0, []), none, none, some (.aload_n 0, 1, 0, 0, []), some (.getfield 26, 3, 11, 2, []), none, none, some (.iload_n 1, 1, 0, 0, []), some (.iload_n 3, 1, 0, 0, []), some (.invokevirtual 201, 3, 7, 2, []), none, none, some (.aload_n 0, 1, 0, 0, []), some (.getfield 85, 3, 11, 11, []), none, none, some (.invokevirtual 205, 3, 1202, 0, []), none, none, some (.aload_n 0, 1, 0, 0, []), some (.iconst 0, 1, 0, 0, []), some (.putfield 206, 3, 11, 14, []), none, none, some (.iload_n 3, 1, 0, 0, []), some (.ireturn, 1, 0, 0, [])]
def kX11_readLines : List (Option zi_I) := [some (.aload_n 0, 1, 0, 0, []), some (.getfield 26, 3, 11, 2, []), none, none, some (.iload_n 1, 1, 0, 0, []), some (.invokevirtual 209, 3, 5, 1, []), none, none, some (.istore_n 2, 1, 0, 0, []), some (.aload_n 0, 1, 0, 0, []), some (.getfield 26, 3, 11, 2, []), none, none, some (.iload_n 1, 1, 0, 0, []), some (.invokevirtual 212, 3, 6, 1, []), none, none, some (.istore_n 3, 1, 0, 0, []), some (.iload_n 2, 1, 0, 0, []), some (.istore 4, 2, 0, 0, []), none, some (.iload 4, 2, 0, 0, []), none, some (.iload_n 3, 1, 0, 0, []), some (.if_icmp .ge 77, 3, 101, 0, []), none, none, some (.aload_n 0, 1, 0, 0, []), some (.getfield 26, 3, 11, 2, []), none, none, some (.iload_n 1, 1, 0, 0, []), some (.iload 4, 2, 0, 0, []), none, some (.aload_n 0, 1, 0, 0, []), some (.getfield 10, 3, 11, 0, []), none, none, some (.aload_n 0, 1, 0, 0, []), some (.getfield 33, 3, 11, 3, []), none, none, some (.invokevirtual 215, 3, 8, 4, []), none, none, some (.ifCond .ne 11, 3, 56, 0, []), none, none, some (.aload_n 0, 1, 0, 0, []), some (.getfield 10, 3, 11, 0, []), none, none, some (.invokevirtual 219, 3, 1609, 0, []), none, none, some (.ireturn, 1, 0, 0, []), some (.aload_n 0, 1, 0, 0, []), some (.getfield 10, 3, 11, 0, []), none, none, some (.invokevirtual 194, 3, 1608, 0, []), none, none, some (.ifCond .eq 10, 3, 73, 0, []), none, none, some (.iload 4, 2, 0, 0, []), none, some (.iconst 1, 1, 0, 0, []), some (.iadd, 1, 0, 0, []), some (.iload_n 2, 1, 0, 0, []), some (.isub, 1, 0, 0, []), some (.ireturn, 1, 0, 0, []), some (.aload_n 0, 1, 0, 0, []), some (.getfield 10, 3, 11, 0, []), none, none, some (.bipush 59, 2, 0, 0, []), none, some (.bipush 59, 2, 0, 0, []), none, some (.invokevirtual 222, 3, 1610, 2, []), none, none, some (.ifCond .ge 11, 3, 95, 0, []), none, none, some (.aload_n 0, 1, 0, 0, []), some (.getfield 10, 3, 11, 0, []), none, none, some (.invokevirtual 219, 3, 1609, 0, []), none, none, some (.ireturn, 1, 0, 0, []), some (.iinc 4 1, 3, 0, 0, []), none, none, some (.goto (-77), 3, 21, 0, []), none, none, some (.aload_n 0, 1, 0, 0, []), some (.getfield 10, 3, 11, 0, []), none, none, some (.invokevirtual 219, 3, 1609, 0, []), none, none, some (.ireturn, 1, 0, 0, [])]
def kX11_hire : List (Option zi_I) := [some (.aload_n 0, 1, 0, 0, []), some (.getfield 37, 3, 11, 4, []), none, none, some (.aload_n 0, 1, 0, 0, []), some (.getfield 33, 3, 11, 3, []), none, none, some (.invokevirtual 225, 3, 601, 1, []), none, none, some (.aload_n 0, 1, 0, 0, []), some (.aload_n 0, 1, 0, 0, []), some (.iload_n 1, 1, 0, 0, []), some (.iload_n 2, 1, 0, 0, []), some (.invokevirtual 229, 3, 2221, 2, []), none, none, some (.invokevirtual 232, 3, 2220, 1, []), none, none, some (.ireturn, 1, 0, 0, [])]
def kX11_leave : List (Option zi_I) := [some (.aload_n 0, 1, 0, 0, []), some (.getfield 37, 3, 11, 4, []), none, none, some (.aload_n 0, 1, 0, 0, []), some (.getfield 33, 3, 11, 3, []), none, none, some (.invokevirtual 225, 3, 601, 1, []), none, none, some (.aload_n 0, 1, 0, 0, []), some (.aload_n 0, 1, 0, 0, []), some (.iload_n 1, 1, 0, 0, []), some (.invokevirtual 235, 3, 2222, 1, []), none, none, some (.invokevirtual 232, 3, 2220, 1, []), none, none, some (.ireturn, 1, 0, 0, [])]
def kX11_pass : List (Option zi_I) := [some (.aload_n 0, 1, 0, 0, []), some (.getfield 37, 3, 11, 4, []), none, none, some (.aload_n 0, 1, 0, 0, []), some (.getfield 33, 3, 11, 3, []), none, none, some (.invokevirtual 225, 3, 601, 1, []), none, none, some (.aload_n 0, 1, 0, 0, []), some (.getfield 57, 3, 11, 7, []), none, none, some (.aload_n 0, 1, 0, 0, []), some (.getfield 33, 3, 11, 3, []), none, none, some (.iload_n 1, 1, 0, 0, []), some (.iload_n 2, 1, 0, 0, []), some (.invokevirtual 238, 3, 1805, 3, []), none, none, some (.istore_n 3, 1, 0, 0, []), some (.iload_n 3, 1, 0, 0, []), some (.ifCond .lt 7, 3, 33, 0, []), none, none, some (.aload_n 0, 1, 0, 0, []), some (.invokevirtual 242, 3, 2234, 0, []), none, none, some (.aload_n 0, 1, 0, 0, []), some (.iload_n 3, 1, 0, 0, []), some (.invokevirtual 232, 3, 2220, 1, []), none, none, some (.ireturn, 1, 0, 0, [])]
def kX11_rest : List (Option zi_I) := [some (.aload_n 0, 1, 0, 0, []), some (.getfield 37, 3, 11, 4, []), none, none, some (.aload_n 0, 1, 0, 0, []), some (.getfield 33, 3, 11, 3, []), none, none, some (.invokevirtual 225, 3, 601, 1, []), none, none, some (.aload_n 0, 1, 0, 0, []), some (.aload_n 0, 1, 0, 0, []), some (.iload_n 1, 1, 0, 0, []), some (.invokevirtual 245, 3, 2223, 1, []), none, none, some (.invokevirtual 232, 3, 2220, 1, []), none, none, some (.ireturn, 1, 0, 0, [])]
def kX11_day : List (Option zi_I) := [some (.aload_n 0, 1, 0, 0, []), some (.getfield 10, 3, 11, 0, []), none, none, some (.bipush 60, 2, 0, 0, []), none, some (.invokevirtual 190, 3, 1605, 1, []), none, none, some (.aload_n 0, 1, 0, 0, []), some (.getfield 10, 3, 11, 0, []), none, none, some (.invokevirtual 194, 3, 1608, 0, []), none, none, some (.ifCond .eq 7, 3, 23, 0, []), none, none, some (.iconst 0, 1, 0, 0, []), some (.goto 7, 3, 27, 0, []), none, none, some (.aload_n 0, 1, 0, 0, []), some (.invokevirtual 248, 3, 2224, 0, []), none, none, some (.istore_n 1, 1, 0, 0, []), some (.aload_n 0, 1, 0, 0, []), some (.getfield 10, 3, 11, 0, []), none, none, some (.invokevirtual 122, 3, 1604, 0, []), none, none, some (.iload_n 1, 1, 0, 0, []), some (.ifCond .ge 5, 3, 41, 0, []), none, none, some (.iload_n 1, 1, 0, 0, []), some (.ireturn, 1, 0, 0, []), some (.aload_n 0, 1, 0, 0, []), some (.getfield 37, 3, 11, 4, []), none, none, some (.aload_n 0, 1, 0, 0, []), some (.getfield 33, 3, 11, 3, []), none, none, some (.invokevirtual 225, 3, 601, 1, []), none, none, some (.iconst 0, 1, 0, 0, []), some (.istore_n 2, 1, 0, 0, []), some (.iconst 0, 1, 0, 0, []), some (.istore_n 3, 1, 0, 0, []), some (.iconst 0, 1, 0, 0, []), some (.istore 4, 2, 0, 0, []), none, some (.iconst 0, 1, 0, 0, []), some (.istore 5, 2, 0, 0, []), none, some (.iload 5, 2, 0, 0, []), none, some (.iload_n 1, 1, 0, 0, []), some (.if_icmp .ge 64, 3, 129, 0, []), none, none, some (.iload 4, 2, 0, 0, []), none, some (.ifCond .ne 59, 3, 129, 0, []), none, none, some (.aload_n 0, 1, 0, 0, []), some (.aload_n 0, 1, 0, 0, []), some (.getfield 93, 3, 11, 13, []), none, none, some (.iload 5, 2, 0, 0, []), none, some (.iaload, 1, 0, 0, []), some (.invokevirtual 251, 3, 2227, 1, []), none, none, some (.ifCond .ge 7, 3, 91, 0, []), none, none, some (.iconst 1, 1, 0, 0, []), some (.goto 4, 3, 92, 0, []), none, none, some (.iconst 0, 1, 0, 0, []), some (.istore 4, 2, 0, 0, []), none, some (.iload 4, 2, 0, 0, []), none, some (.ifCond .ne 27, 3, 123, 0, []), none, none, some (.iinc 2 1, 3, 0, 0, []), none, none, some (.iload_n 3, 1, 0, 0, []), some (.aload_n 0, 1, 0, 0, []), some (.getfield 93, 3, 11, 13, []), none, none, some (.iload 5, 2, 0, 0, []), none, some (.iaload, 1, 0, 0, []), some (.invokestatic 254, 3, 2226, 1, []), none, none, some (.ifCond .eq 7, 3, 120, 0, []), none, none, some (.iconst 1, 1, 0, 0, []), some (.goto 4, 3, 121, 0, []), none, none, some (.iconst 0, 1, 0, 0, []), some (.iadd, 1, 0, 0, []), some (.istore_n 3, 1, 0, 0, []), some (.iinc 5 1, 3, 0, 0, []), none, none, some (.goto (-64), 3, 62, 0, []), none, none, some (.iload_n 2, 1, 0, 0, []), some (.ifCond .le 14, 3, 144, 0, []), none, none, some (.aload_n 0, 1, 0, 0, []), some (.getfield 85, 3, 11, 11, []), none, none, some (.aload_n 0, 1, 0, 0, []), some (.getfield 37, 3, 11, 4, []), none, none, some (.invokevirtual 257, 3, 1203, 1, []), none, none, some (.aload_n 0, 1, 0, 0, []), some (.getfield 19, 3, 11, 1, []), none, none, some (.invokevirtual 260, 3, 1003, 0, []), none, none, some (.aload_n 0, 1, 0, 0, []), some (.getfield 19, 3, 11, 1, []), none, none, some (.iload 4, 2, 0, 0, []), none, some (.ifCond .eq 7, 3, 164, 0, []), none, none, some (.lconst 1, 1, 0, 0, []), some (.goto 4, 3, 165, 0, []), none, none, some (.lconst 0, 1, 0, 0, []), some (.invokevirtual 261, 3, 1004, 1, []), none, none, some (.aload_n 0, 1, 0, 0, []), some (.getfield 19, 3, 11, 1, []), none, none, some (.iload_n 3, 1, 0, 0, []), some (.i2l, 1, 0, 0, []), some (.invokevirtual 261, 3, 1004, 1, []), none, none, some (.iload_n 2, 1, 0, 0, []), some (.ireturn, 1, 0, 0, [])]
def kX11_undo : List (Option zi_I) := [some (.aload_n 0, 1, 0, 0, []), some (.getfield 85, 3, 11, 11, []), none, none, some (.aload_n 0, 1, 0, 0, []), some (.getfield 33, 3, 11, 3, []), none, none, some (.invokevirtual 264, 3, 1204, 1, []), none, none, some (.ifCond .eq 13, 3, 24, 0, []), none, none, some (.aload_n 0, 1, 0, 0, []), some (.getfield 85, 3, 11, 11, []), none, none, some (.invokevirtual 268, 3, 1201, 0, []), none, none, some (.goto 4, 3, 25, 0, []), none, none, some (.iconst (-1), 1, 0, 0, []), some (.ireturn, 1, 0, 0, [])]
def kX11_remember : List (Option zi_I) := [some (.iload_n 1, 1, 0, 0, []), some (.ifCond .lt 14, 3, 15, 0, []), none, none, some (.aload_n 0, 1, 0, 0, []), some (.getfield 85, 3, 11, 11, []), none, none, some (.aload_n 0, 1, 0, 0, []), some (.getfield 37, 3, 11, 4, []), none, none, some (.invokevirtual 257, 3, 1203, 1, []), none, none, some (.iload_n 1, 1, 0, 0, []), some (.ireturn, 1, 0, 0, [])]
def kX11_takeOn : List (Option zi_I) := [some (.aload_n 0, 1, 0, 0, []), some (.getfield 26, 3, 11, 2, []), none, none, some (.iload_n 1, 1, 0, 0, []), some (.invokevirtual 162, 3, 4, 1, []), none, none, some (.ifCond .eq 14, 3, 22, 0, []), none, none, some (.aload_n 0, 1, 0, 0, []), some (.getfield 26, 3, 11, 2, []), none, none, some (.iload_n 2, 1, 0, 0, []), some (.invokevirtual 141, 3, 3, 1, []), none, none, some (.ifCond .ne 5, 3, 24, 0, []), none, none, some (.iconst (-1), 1, 0, 0, []), some (.ireturn, 1, 0, 0, []), some (.aload_n 0, 1, 0, 0, []), some (.getfield 33, 3, 11, 3, []), none, none, some (.getfield 159, 3, 3, 4, []), none, none, some (.iload_n 2, 1, 0, 0, []), some (.iaload, 1, 0, 0, []), some (.iconst (-1), 1, 0, 0, []), some (.if_icmp .ne 24, 3, 58, 0, []), none, none, some (.aload_n 0, 1, 0, 0, []), some (.getfield 33, 3, 11, 3, []), none, none, some (.getfield 271, 3, 3, 3, []), none, none, some (.iload_n 2, 1, 0, 0, []), some (.iaload, 1, 0, 0, []), some (.aload_n 0, 1, 0, 0, []), some (.getfield 33, 3, 11, 3, []), none, none, some (.getfield 165, 3, 3, 6, []), none, none, some (.iload_n 1, 1, 0, 0, []), some (.iaload, 1, 0, 0, []), some (.if_icmp .eq 6, 3, 61, 0, []), none, none, some (.bipush (-2), 2, 0, 0, []), none, some (.ireturn, 1, 0, 0, []), some (.aload_n 0, 1, 0, 0, []), some (.getfield 33, 3, 11, 3, []), none, none, some (.getfield 171, 3, 3, 7, []), none, none, some (.iload_n 1, 1, 0, 0, []), some (.iaload, 1, 0, 0, []), some (.aload_n 0, 1, 0, 0, []), some (.getfield 26, 3, 11, 2, []), none, none, some (.getfield 150, 3, 0, 5, []), none, none, some (.iload_n 2, 1, 0, 0, []), some (.iaload, 1, 0, 0, []), some (.if_icmp .ge 6, 3, 85, 0, []), none, none, some (.bipush (-3), 2, 0, 0, []), none, some (.ireturn, 1, 0, 0, []), some (.aload_n 0, 1, 0, 0, []), some (.getfield 33, 3, 11, 3, []), none, none, some (.getfield 159, 3, 3, 4, []), none, none, some (.iload_n 2, 1, 0, 0, []), some (.iload_n 1, 1, 0, 0, []), some (.iastore, 1, 0, 0, []), some (.aload_n 0, 1, 0, 0, []), some (.getfield 33, 3, 11, 3, []), none, none, some (.getfield 171, 3, 3, 7, []), none, none, some (.iload_n 1, 1, 0, 0, []), some (.dup2, 1, 0, 0, []), some (.iaload, 1, 0, 0, []), some (.aload_n 0, 1, 0, 0, []), some (.getfield 26, 3, 11, 2, []), none, none, some (.getfield 150, 3, 0, 5, []), none, none, some (.iload_n 2, 1, 0, 0, []), some (.iaload, 1, 0, 0, []), some (.isub, 1, 0, 0, []), some (.iastore, 1, 0, 0, []), some (.aload_n 0, 1, 0, 0, []), some (.getfield 33, 3, 11, 3, []), none, none, some (.getfield 171, 3, 3, 7, []), none, none, some (.iload_n 1, 1, 0, 0, []), some (.iaload, 1, 0, 0, []), some (.ireturn, 1, 0, 0, [])]
def kX11_letGo : List (Option zi_I) := [some (.aload_n 0, 1, 0, 0, []), some (.getfield 26, 3, 11, 2, []), none, none, some (.iload_n 1, 1, 0, 0, []), some (.invokevirtual 141, 3, 3, 1, []), none, none, some (.ifCond .ne 5, 3, 13, 0, []), none, none, some (.iconst (-1), 1, 0, 0, []), some (.ireturn, 1, 0, 0, []), some (.aload_n 0, 1, 0, 0, []), some (.getfield 33, 3, 11, 3, []), none, none, some (.getfield 159, 3, 3, 4, []), none, none, some (.iload_n 1, 1, 0, 0, []), some (.iaload, 1, 0, 0, []), some (.istore_n 2, 1, 0, 0, []), some (.iload_n 2, 1, 0, 0, []), some (.iconst (-1), 1, 0, 0, []), some (.if_icmp .ne 6, 3, 31, 0, []), none, none, some (.bipush (-2), 2, 0, 0, []), none, some (.ireturn, 1, 0, 0, []), some (.aload_n 0, 1, 0, 0, []), some (.getfield 33, 3, 11, 3, []), none, none, some (.getfield 271, 3, 3, 3, []), none, none, some (.iload_n 1, 1, 0, 0, []), some (.aload_n 0, 1, 0, 0, []), some (.getfield 33, 3, 11, 3, []), none, none, some (.iload_n 1, 1, 0, 0, []), some (.invokevirtual 156, 3, 604, 1, []), none, none, some (.iastore, 1, 0, 0, []), some (.aload_n 0, 1, 0, 0, []), some (.getfield 33, 3, 11, 3, []), none, none, some (.getfield 159, 3, 3, 4, []), none, none, some (.iload_n 1, 1, 0, 0, []), some (.iconst (-1), 1, 0, 0, []), some (.iastore, 1, 0, 0, []), some (.iload_n 2, 1, 0, 0, []), some (.ireturn, 1, 0, 0, [])]
def kX11_takeRest : List (Option zi_I) := [some (.iload_n 1, 1, 0, 0, []), some (.ifCond .lt 10, 3, 11, 0, []), none, none, some (.iload_n 1, 1, 0, 0, []), some (.sipush 600, 3, 0, 0, []), none, none, some (.if_icmp .le 5, 3, 13, 0, []), none, none, some (.iconst (-1), 1, 0, 0, []), some (.ireturn, 1, 0, 0, []), some (.aload_n 0, 1, 0, 0, []), some (.getfield 33, 3, 11, 3, []), none, none, some (.iload_n 1, 1, 0, 0, []), some (.invokevirtual 274, 3, 605, 1, []), none, none, some (.aload_n 0, 1, 0, 0, []), some (.getfield 33, 3, 11, 3, []), none, none, some (.getfield 277, 3, 3, 2, []), none, none, some (.ireturn, 1, 0, 0, [])]
def kX11_readActs : List (Option zi_I) := [some (.iconst 0, 1, 0, 0, []), some (.istore_n 1, 1, 0, 0, []), some (.iload_n 1, 1, 0, 0, []), some (.bipush 60, 2, 0, 0, []), none, some (.if_icmp .ge 69, 3, 74, 0, []), none, none, some (.aload_n 0, 1, 0, 0, []), some (.invokevirtual 280, 3, 2225, 0, []), none, none, some (.istore_n 2, 1, 0, 0, []), some (.iload_n 2, 1, 0, 0, []), some (.ifCond .ge 11, 3, 25, 0, []), none, none, some (.aload_n 0, 1, 0, 0, []), some (.getfield 10, 3, 11, 0, []), none, none, some (.invokevirtual 219, 3, 1609, 0, []), none, none, some (.ireturn, 1, 0, 0, []), some (.aload_n 0, 1, 0, 0, []), some (.getfield 93, 3, 11, 13, []), none, none, some (.iload_n 1, 1, 0, 0, []), some (.iload_n 2, 1, 0, 0, []), some (.iastore, 1, 0, 0, []), some (.aload_n 0, 1, 0, 0, []), some (.getfield 10, 3, 11, 0, []), none, none, some (.invokevirtual 194, 3, 1608, 0, []), none, none, some (.ifCond .eq 7, 3, 46, 0, []), none, none, some (.iload_n 1, 1, 0, 0, []), some (.iconst 1, 1, 0, 0, []), some (.iadd, 1, 0, 0, []), some (.ireturn, 1, 0, 0, []), some (.aload_n 0, 1, 0, 0, []), some (.getfield 10, 3, 11, 0, []), none, none, some (.bipush 59, 2, 0, 0, []), none, some (.bipush 59, 2, 0, 0, []), none, some (.invokevirtual 222, 3, 1610, 2, []), none, none, some (.ifCond .ge 11, 3, 68, 0, []), none, none, some (.aload_n 0, 1, 0, 0, []), some (.getfield 10, 3, 11, 0, []), none, none, some (.invokevirtual 219, 3, 1609, 0, []), none, none, some (.ireturn, 1, 0, 0, []), some (.iinc 1 1, 3, 0, 0, []), none, none, some (.goto (-69), 3, 2, 0, []), none, none, some (.aload_n 0, 1, 0, 0, []), some (.getfield 10, 3, 11, 0, []), none, none, some (.invokevirtual 219, 3, 1609, 0, []), none, none, some (.ireturn, 1, 0, 0, [])]
def kX11_readAct : List (Option zi_I) := [some (.aload_n 0, 1, 0, 0, []), some (.getfield 10, 3, 11, 0, []), none, none, some (.invokevirtual 283, 3, 1606, 0, []), none, none, some (.istore_n 1, 1, 0, 0, []), some (.iload_n 1, 1, 0, 0, []), some (.bipush 104, 2, 0, 0, []), none, some (.if_icmp .eq 29, 3, 40, 0, []), none, none, some (.iload_n 1, 1, 0, 0, []), some (.bipush 108, 2, 0, 0, []), none, some (.if_icmp .eq 23, 3, 40, 0, []), none, none, some (.iload_n 1, 1, 0, 0, []), some (.bipush 117, 2, 0, 0, []), none, some (.if_icmp .eq 17, 3, 40, 0, []), none, none, some (.iload_n 1, 1, 0, 0, []), some (.bipush 100, 2, 0, 0, []), none, some (.if_icmp .eq 11, 3, 40, 0, []), none, none, some (.iload_n 1, 1, 0, 0, []), some (.bipush 114, 2, 0, 0, []), none, some (.if_icmp .eq 5, 3, 40, 0, []), none, none, some (.iconst (-1), 1, 0, 0, []), some (.ireturn, 1, 0, 0, []), some (.aload_n 0, 1, 0, 0, []), some (.getfield 10, 3, 11, 0, []), none, none, some (.invokevirtual 286, 3, 1607, 0, []), none, none, some (.iload_n 1, 1, 0, 0, []), some (.bipush 114, 2, 0, 0, []), none, some (.if_icmp .ne 28, 3, 78, 0, []), none, none, some (.aload_n 0, 1, 0, 0, []), some (.getfield 10, 3, 11, 0, []), none, none, some (.iconst 3, 1, 0, 0, []), some (.invokevirtual 289, 3, 1611, 1, []), none, none, some (.istore_n 2, 1, 0, 0, []), some (.iload_n 2, 1, 0, 0, []), some (.ifCond .ge 7, 3, 70, 0, []), none, none, some (.iconst (-1), 1, 0, 0, []), some (.goto 10, 3, 77, 0, []), none, none, some (.iload_n 1, 1, 0, 0, []), some (.sipush 1000, 3, 0, 0, []), none, none, some (.imul, 1, 0, 0, []), some (.iload_n 2, 1, 0, 0, []), some (.iadd, 1, 0, 0, []), some (.ireturn, 1, 0, 0, []), some (.aload_n 0, 1, 0, 0, []), some (.getfield 10, 3, 11, 0, []), none, none, some (.iconst 1, 1, 0, 0, []), some (.invokevirtual 289, 3, 1611, 1, []), none, none, some (.istore_n 2, 1, 0, 0, []), some (.iload_n 2, 1, 0, 0, []), some (.ifCond .lt 9, 3, 97, 0, []), none, none, some (.iload_n 1, 1, 0, 0, []), some (.bipush 104, 2, 0, 0, []), none, some (.if_icmp .eq 19, 3, 113, 0, []), none, none, some (.iload_n 2, 1, 0, 0, []), some (.ifCond .ge 7, 3, 105, 0, []), none, none, some (.iconst (-1), 1, 0, 0, []), some (.goto 10, 3, 112, 0, []), none, none, some (.iload_n 1, 1, 0, 0, []), some (.sipush 1000, 3, 0, 0, []), none, none, some (.imul, 1, 0, 0, []), some (.iload_n 2, 1, 0, 0, []), some (.iadd, 1, 0, 0, []), some (.ireturn, 1, 0, 0, []), some (.aload_n 0, 1, 0, 0, []), some (.getfield 10, 3, 11, 0, []), none, none, some (.iconst 1, 1, 0, 0, []), some (.invokevirtual 289, 3, 1611, 1, []), none, none, some (.istore_n 3, 1, 0, 0, []), some (.iload_n 3, 1, 0, 0, []), some (.ifCond .ge 7, 3, 130, 0, []), none, none, some (.iconst (-1), 1, 0, 0, []), some (.goto 15, 3, 142, 0, []), none, none, some (.iload_n 1, 1, 0, 0, []), some (.sipush 1000, 3, 0, 0, []), none, none, some (.imul, 1, 0, 0, []), some (.iload_n 2, 1, 0, 0, []), some (.bipush 10, 2, 0, 0, []), none, some (.imul, 1, 0, 0, []), some (.iadd, 1, 0, 0, []), some (.iload_n 3, 1, 0, 0, []), some (.iadd, 1, 0, 0, []), some (.ireturn, 1, 0, 0, [])]
def kX11_isPass : List (Option zi_I) := [some (.iload_n 0, 1, 0, 0, []), some (.sipush 1000, 3, 0, 0, []), none, none, some (.idiv, 1, 0, 0, []), some (.istore_n 1, 1, 0, 0, []), some (.iload_n 1, 1, 0, 0, []), some (.bipush 117, 2, 0, 0, []), none, some (.if_icmp .eq 9, 3, 18, 0, []), none, none, some (.iload_n 1, 1, 0, 0, []), some (.bipush 100, 2, 0, 0, []), none, some (.if_icmp .ne 7, 3, 22, 0, []), none, none, some (.iconst 1, 1, 0, 0, []), some (.goto 4, 3, 23, 0, []), none, none, some (.iconst 0, 1, 0, 0, []), some (.ireturn, 1, 0, 0, [])]
def kX11_perform : List (Option zi_I) := [some (.iload_n 1, 1, 0, 0, []), some (.sipush 1000, 3, 0, 0, []), none, none, some (.irem, 1, 0, 0, []), some (.istore_n 2, 1, 0, 0, []), some (.iload_n 1, 1, 0, 0, []), some (.sipush 1000, 3, 0, 0, []), none, none, some (.idiv, 1, 0, 0, []), some (.lookupswitch 88 #[(100, 74), (104, 41), (108, 54), (117, 60)], 41, 99, 0, [(100, 85), (104, 52), (108, 65), (117, 71)]), none, none, none, none, none, none, none, none, none, none, none, none, none, none, none, none, none, none, none, none, none, none, none, none, none, none, none, none, none, none, none, none, none, none, none, none, none, none, none, none, some (.aload_n 0, 1, 0, 0, []), some (.iload_n 2, 1, 0, 0, []), some (.bipush 10, 2, 0, 0, []), none, some (.idiv, 1, 0, 0, []), some (.iload_n 2, 1, 0, 0, []), some (.bipush 10, 2, 0, 0, []), none, some (.irem, 1, 0, 0, []), some (.invokevirtual 229, 3, 2221, 2, []), none, none, some (.ireturn, 1, 0, 0, []), some (.aload_n 0, 1, 0, 0, []), some (.iload_n 2, 1, 0, 0, []), some (.invokevirtual 235, 3, 2222, 1, []), none, none, some (.ireturn, 1, 0, 0, []), some (.aload_n 0, 1, 0, 0, []), some (.getfield 57, 3, 11, 7, []), none, none, some (.aload_n 0, 1, 0, 0, []), some (.getfield 33, 3, 11, 3, []), none, none, some (.iload_n 2, 1, 0, 0, []), some (.iconst 1, 1, 0, 0, []), some (.invokevirtual 238, 3, 1805, 3, []), none, none, some (.ireturn, 1, 0, 0, []), some (.aload_n 0, 1, 0, 0, []), some (.getfield 57, 3, 11, 7, []), none, none, some (.aload_n 0, 1, 0, 0, []), some (.getfield 33, 3, 11, 3, []), none, none, some (.iload_n 2, 1, 0, 0, []), some (.iconst 0, 1, 0, 0, []), some (.invokevirtual 238, 3, 1805, 3, []), none, none, some (.ireturn, 1, 0, 0, []), some (.aload_n 0, 1, 0, 0, []), some (.iload_n 2, 1, 0, 0, []), some (.invokevirtual 245, 3, 2223, 1, []), none, none, some (.ireturn, 1, 0, 0, [])]
def kX11_sings : List (Option zi_I) := [some (.aload_n 0, 1, 0, 0, []), some (.getfield 26, 3, 11, 2, []), none, none, some (.iload_n 1, 1, 0, 0, []), some (.invokevirtual 162, 3, 4, 1, []), none, none, some (.ifCond .eq 14, 3, 22, 0, []), none, none, some (.aload_n 0, 1, 0, 0, []), some (.getfield 26, 3, 11, 2, []), none, none, some (.iload_n 2, 1, 0, 0, []), some (.invokevirtual 125, 3, 1, 1, []), none, none, some (.ifCond .ne 5, 3, 24, 0, []), none, none, some (.iconst (-1), 1, 0, 0, []), some (.ireturn, 1, 0, 0, []), some (.aload_n 0, 1, 0, 0, []), some (.getfield 48, 3, 11, 6, []), none, none, some (.aload_n 0, 1, 0, 0, []), some (.getfield 33, 3, 11, 3, []), none, none, some (.iload_n 2, 1, 0, 0, []), some (.iconst 0, 1, 0, 0, []), some (.invokevirtual 292, 3, 201, 3, []), none, none, some (.aload_n 0, 1, 0, 0, []), some (.getfield 19, 3, 11, 1, []), none, none, some (.invokevirtual 260, 3, 1003, 0, []), none, none, some (.aload_n 0, 1, 0, 0, []), some (.getfield 48, 3, 11, 6, []), none, none, some (.aload_n 0, 1, 0, 0, []), some (.getfield 26, 3, 11, 2, []), none, none, some (.aload_n 0, 1, 0, 0, []), some (.getfield 33, 3, 11, 3, []), none, none, some (.iload_n 1, 1, 0, 0, []), some (.invokevirtual 174, 3, 15, 2, []), none, none, some (.invokevirtual 296, 3, 204, 1, []), none, none, some (.ifCond .ne 5, 3, 68, 0, []), none, none, some (.iconst 0, 1, 0, 0, []), some (.ireturn, 1, 0, 0, []), some (.aload_n 0, 1, 0, 0, []), some (.invokevirtual 242, 3, 2234, 0, []), none, none, some (.iconst 1, 1, 0, 0, []), some (.ireturn, 1, 0, 0, [])]
def kX11_lacks : List (Option zi_I) := [some (.aload_n 0, 1, 0, 0, []), some (.getfield 26, 3, 11, 2, []), none, none, some (.iload_n 1, 1, 0, 0, []), some (.invokevirtual 162, 3, 4, 1, []), none, none, some (.ifCond .eq 14, 3, 22, 0, []), none, none, some (.aload_n 0, 1, 0, 0, []), some (.getfield 26, 3, 11, 2, []), none, none, some (.iload_n 2, 1, 0, 0, []), some (.invokevirtual 125, 3, 1, 1, []), none, none, some (.ifCond .ne 5, 3, 24, 0, []), none, none, some (.iconst (-1), 1, 0, 0, []), some (.ireturn, 1, 0, 0, []), some (.aload_n 0, 1, 0, 0, []), some (.getfield 48, 3, 11, 6, []), none, none, some (.aload_n 0, 1, 0, 0, []), some (.getfield 33, 3, 11, 3, []), none, none, some (.iload_n 2, 1, 0, 0, []), some (.iconst 0, 1, 0, 0, []), some (.invokevirtual 292, 3, 201, 3, []), none, none, some (.aload_n 0, 1, 0, 0, []), some (.getfield 48, 3, 11, 6, []), none, none, some (.aload_n 0, 1, 0, 0, []), some (.getfield 26, 3, 11, 2, []), none, none, some (.aload_n 0, 1, 0, 0, []), some (.getfield 33, 3, 11, 3, []), none, none, some (.iload_n 1, 1, 0, 0, []), some (.invokevirtual 174, 3, 15, 2, []), none, none, some (.invokevirtual 299, 3, 206, 1, []), none, none, some (.istore_n 3, 1, 0, 0, []), some (.aload_n 0, 1, 0, 0, []), some (.getfield 19, 3, 11, 1, []), none, none, some (.iload_n 3, 1, 0, 0, []), some (.i2l, 1, 0, 0, []), some (.invokevirtual 302, 3, 1005, 1, []), none, none, some (.iload_n 3, 1, 0, 0, []), some (.invokestatic 305, 3, 2800, 1, []), none, none, some (.ireturn, 1, 0, 0, [])]
def kX11_spoils : List (Option zi_I) := [some (.aload_n 0, 1, 0, 0, []), some (.getfield 26, 3, 11, 2, []), none, none, some (.iload_n 1, 1, 0, 0, []), some (.invokevirtual 162, 3, 4, 1, []), none, none, some (.ifCond .eq 14, 3, 22, 0, []), none, none, some (.aload_n 0, 1, 0, 0, []), some (.getfield 26, 3, 11, 2, []), none, none, some (.iload_n 2, 1, 0, 0, []), some (.invokevirtual 125, 3, 1, 1, []), none, none, some (.ifCond .ne 5, 3, 24, 0, []), none, none, some (.iconst (-1), 1, 0, 0, []), some (.ireturn, 1, 0, 0, []), some (.aload_n 0, 1, 0, 0, []), some (.getfield 48, 3, 11, 6, []), none, none, some (.aload_n 0, 1, 0, 0, []), some (.getfield 33, 3, 11, 3, []), none, none, some (.iload_n 2, 1, 0, 0, []), some (.iconst 0, 1, 0, 0, []), some (.invokevirtual 292, 3, 201, 3, []), none, none, some (.aload_n 0, 1, 0, 0, []), some (.getfield 48, 3, 11, 6, []), none, none, some (.aload_n 0, 1, 0, 0, []), some (.getfield 26, 3, 11, 2, []), none, none, some (.aload_n 0, 1, 0, 0, []), some (.getfield 33, 3, 11, 3, []), none, none, some (.iload_n 1, 1, 0, 0, []), some (.invokevirtual 174, 3, 15, 2, []), none, none, some (.invokevirtual 310, 3, 207, 1, []), none, none, some (.istore_n 3, 1, 0, 0, []), some (.aload_n 0, 1, 0, 0, []), some (.getfield 19, 3, 11, 1, []), none, none, some (.iload_n 3, 1, 0, 0, []), some (.i2l, 1, 0, 0, []), some (.invokevirtual 302, 3, 1005, 1, []), none, none, some (.iload_n 3, 1, 0, 0, []), some (.invokestatic 305, 3, 2800, 1, []), none, none, some (.ireturn, 1, 0, 0, [])]
def kX11_shift : List (Option zi_I) := [some (.aload_n 0, 1, 0, 0, []), some (.getfield 26, 3, 11, 2, []), none, none, some (.iload_n 1, 1, 0, 0, []), some (.invokevirtual 162, 3, 4, 1, []), none, none, some (.ifCond .eq 14, 3, 22, 0, []), none, none, some (.aload_n 0, 1, 0, 0, []), some (.getfield 26, 3, 11, 2, []), none, none, some (.iload_n 2, 1, 0, 0, []), some (.invokevirtual 125, 3, 1, 1, []), none, none, some (.ifCond .ne 5, 3, 24, 0, []), none, none, some (.iconst (-1), 1, 0, 0, []), some (.ireturn, 1, 0, 0, []), some (.aload_n 0, 1, 0, 0, []), some (.getfield 26, 3, 11, 2, []), none, none, some (.aload_n 0, 1, 0, 0, []), some (.getfield 33, 3, 11, 3, []), none, none, some (.iload_n 1, 1, 0, 0, []), some (.invokevirtual 174, 3, 15, 2, []), none, none, some (.istore_n 3, 1, 0, 0, []), some (.iconst 0, 1, 0, 0, []), some (.istore 4, 2, 0, 0, []), none, some (.iload 4, 2, 0, 0, []), none, some (.bipush 26, 2, 0, 0, []), none, some (.if_icmp .ge 44, 3, 88, 0, []), none, none, some (.aload_n 0, 1, 0, 0, []), some (.iload_n 3, 1, 0, 0, []), some (.iload_n 2, 1, 0, 0, []), some (.iload 4, 2, 0, 0, []), none, some (.ineg, 1, 0, 0, []), some (.invokevirtual 313, 3, 2233, 3, []), none, none, some (.ifCond .eq 9, 3, 65, 0, []), none, none, some (.bipush 100, 2, 0, 0, []), none, some (.iload 4, 2, 0, 0, []), none, some (.isub, 1, 0, 0, []), some (.ireturn, 1, 0, 0, []), some (.aload_n 0, 1, 0, 0, []), some (.iload_n 3, 1, 0, 0, []), some (.iload_n 2, 1, 0, 0, []), some (.iload 4, 2, 0, 0, []), none, some (.invokevirtual 313, 3, 2233, 3, []), none, none, some (.ifCond .eq 9, 3, 82, 0, []), none, none, some (.bipush 100, 2, 0, 0, []), none, some (.iload 4, 2, 0, 0, []), none, some (.iadd, 1, 0, 0, []), some (.ireturn, 1, 0, 0, []), some (.iinc 4 1, 3, 0, 0, []), none, none, some (.goto (-45), 3, 40, 0, []), none, none, some (.bipush (-2), 2, 0, 0, []), none, some (.ireturn, 1, 0, 0, [])]
def kX11_voices : List (Option zi_I) := [some (.aload_n 0, 1, 0, 0, []), some (.getfield 26, 3, 11, 2, []), none, none, some (.iload_n 1, 1, 0, 0, []), some (.invokevirtual 162, 3, 4, 1, []), none, none, some (.ifCond .eq 14, 3, 22, 0, []), none, none, some (.aload_n 0, 1, 0, 0, []), some (.getfield 26, 3, 11, 2, []), none, none, some (.iload_n 2, 1, 0, 0, []), some (.invokevirtual 125, 3, 1, 1, []), none, none, some (.ifCond .ne 5, 3, 24, 0, []), none, none, some (.iconst (-1), 1, 0, 0, []), some (.ireturn, 1, 0, 0, []), some (.aload_n 0, 1, 0, 0, []), some (.getfield 26, 3, 11, 2, []), none, none, some (.aload_n 0, 1, 0, 0, []), some (.getfield 33, 3, 11, 3, []), none, none, some (.aload_n 0, 1, 0, 0, []), some (.getfield 33, 3, 11, 3, []), none, none, some (.getfield 165, 3, 3, 6, []), none, none, some (.iload_n 1, 1, 0, 0, []), some (.iaload, 1, 0, 0, []), some (.invokevirtual 317, 3, 16, 2, []), none, none, some (.istore_n 3, 1, 0, 0, []), some (.aload_n 0, 1, 0, 0, []), some (.getfield 64, 3, 11, 8, []), none, none, some (.invokevirtual 320, 3, 401, 0, []), none, none, some (.aload_n 0, 1, 0, 0, []), some (.getfield 64, 3, 11, 8, []), none, none, some (.aload_n 0, 1, 0, 0, []), some (.getfield 33, 3, 11, 3, []), none, none, some (.iload_n 2, 1, 0, 0, []), some (.aload_n 0, 1, 0, 0, []), some (.getfield 26, 3, 11, 2, []), none, none, some (.aload_n 0, 1, 0, 0, []), some (.getfield 33, 3, 11, 3, []), none, none, some (.iload_n 1, 1, 0, 0, []), some (.invokevirtual 174, 3, 15, 2, []), none, none, some (.iload_n 3, 1, 0, 0, []), some (.invokevirtual 323, 3, 402, 4, []), none, none, some (.aload_n 0, 1, 0, 0, []), some (.aload_n 0, 1, 0, 0, []), some (.getfield 64, 3, 11, 8, []), none, none, some (.iload_n 3, 1, 0, 0, []), some (.invokevirtual 327, 3, 403, 1, []), none, none, some (.invokevirtual 330, 3, 2235, 1, []), none, none, some (.ireturn, 1, 0, 0, [])]
def kX11_singsShifted : List (Option zi_I) := [some (.aload_n 0, 1, 0, 0, []), some (.getfield 48, 3, 11, 6, []), none, none, some (.aload_n 0, 1, 0, 0, []), some (.getfield 33, 3, 11, 3, []), none, none, some (.iload_n 2, 1, 0, 0, []), some (.iload_n 3, 1, 0, 0, []), some (.invokevirtual 292, 3, 201, 3, []), none, none, some (.aload_n 0, 1, 0, 0, []), some (.getfield 48, 3, 11, 6, []), none, none, some (.iload_n 1, 1, 0, 0, []), some (.invokevirtual 296, 3, 204, 1, []), none, none, some (.ifCond .ne 5, 3, 26, 0, []), none, none, some (.iconst 0, 1, 0, 0, []), some (.ireturn, 1, 0, 0, []), some (.aload_n 0, 1, 0, 0, []), some (.invokevirtual 242, 3, 2234, 0, []), none, none, some (.iconst 1, 1, 0, 0, []), some (.ireturn, 1, 0, 0, [])]
def kX11_tellSong : List (Option zi_I) := [some (.aload_n 0, 1, 0, 0, []), some (.getfield 19, 3, 11, 1, []), none, none, some (.invokevirtual 260, 3, 1003, 0, []), none, none, some (.iconst 0, 1, 0, 0, []), some (.istore_n 1, 1, 0, 0, []), some (.iload_n 1, 1, 0, 0, []), some (.iconst 4, 1, 0, 0, []), some (.if_icmp .ge 26, 3, 37, 0, []), none, none, some (.aload_n 0, 1, 0, 0, []), some (.getfield 19, 3, 11, 1, []), none, none, some (.aload_n 0, 1, 0, 0, []), some (.getfield 48, 3, 11, 6, []), none, none, some (.getfield 333, 3, 1, 2, []), none, none, some (.iload_n 1, 1, 0, 0, []), some (.iaload, 1, 0, 0, []), some (.i2l, 1, 0, 0, []), some (.invokevirtual 261, 3, 1004, 1, []), none, none, some (.iinc 1 1, 3, 0, 0, []), none, none, some (.goto (-25), 3, 9, 0, []), none, none, some (.return_, 1, 0, 0, [])]
def kX11_tellHired : List (Option zi_I) := [some (.iload_n 1, 1, 0, 0, []), some (.ifCond .ge 6, 3, 7, 0, []), none, none, some (.bipush (-2), 2, 0, 0, []), none, some (.ireturn, 1, 0, 0, []), some (.aload_n 0, 1, 0, 0, []), some (.getfield 19, 3, 11, 1, []), none, none, some (.aload_n 0, 1, 0, 0, []), some (.getfield 26, 3, 11, 2, []), none, none, some (.iload_n 1, 1, 0, 0, []), some (.invokevirtual 336, 3, 18, 1, []), none, none, some (.i2l, 1, 0, 0, []), some (.invokevirtual 302, 3, 1005, 1, []), none, none, some (.iload_n 1, 1, 0, 0, []), some (.ireturn, 1, 0, 0, [])]
def kX11_journey : List (Option zi_I) := [some (.aload_n 0, 1, 0, 0, []), some (.getfield 26, 3, 11, 2, []), none, none, some (.iload_n 1, 1, 0, 0, []), some (.invokevirtual 162, 3, 4, 1, []), none, none, some (.ifCond .eq 14, 3, 22, 0, []), none, none, some (.aload_n 0, 1, 0, 0, []), some (.getfield 26, 3, 11, 2, []), none, none, some (.iload_n 2, 1, 0, 0, []), some (.invokevirtual 339, 3, 2, 1, []), none, none, some (.ifCond .ne 5, 3, 24, 0, []), none, none, some (.iconst (-1), 1, 0, 0, []), some (.ireturn, 1, 0, 0, []), some (.aload_n 0, 1, 0, 0, []), some (.getfield 40, 3, 11, 5, []), none, none, some (.aload_n 0, 1, 0, 0, []), some (.getfield 33, 3, 11, 3, []), none, none, some (.invokevirtual 225, 3, 601, 1, []), none, none, some (.aload_n 0, 1, 0, 0, []), some (.getfield 57, 3, 11, 7, []), none, none, some (.aload_n 0, 1, 0, 0, []), some (.getfield 40, 3, 11, 5, []), none, none, some (.iload_n 1, 1, 0, 0, []), some (.iload_n 2, 1, 0, 0, []), some (.invokevirtual 342, 3, 1807, 3, []), none, none, some (.istore_n 3, 1, 0, 0, []), some (.aload_n 0, 1, 0, 0, []), some (.getfield 19, 3, 11, 1, []), none, none, some (.aload_n 0, 1, 0, 0, []), some (.getfield 57, 3, 11, 7, []), none, none, some (.getfield 345, 3, 9, 4, []), none, none, some (.i2l, 1, 0, 0, []), some (.invokevirtual 302, 3, 1005, 1, []), none, none, some (.iload_n 3, 1, 0, 0, []), some (.ifCond .ge 49, 3, 114, 0, []), none, none, some (.aload_n 0, 1, 0, 0, []), some (.getfield 19, 3, 11, 1, []), none, none, some (.aload_n 0, 1, 0, 0, []), some (.getfield 57, 3, 11, 7, []), none, none, some (.aload_n 0, 1, 0, 0, []), some (.getfield 40, 3, 11, 5, []), none, none, some (.iload_n 1, 1, 0, 0, []), some (.aload_n 0, 1, 0, 0, []), some (.getfield 57, 3, 11, 7, []), none, none, some (.aload_n 0, 1, 0, 0, []), some (.getfield 40, 3, 11, 5, []), none, none, some (.iload_n 1, 1, 0, 0, []), some (.iload_n 2, 1, 0, 0, []), some (.invokevirtual 348, 3, 1801, 3, []), none, none, some (.invokevirtual 351, 3, 1802, 3, []), none, none, some (.i2l, 1, 0, 0, []), some (.invokevirtual 261, 3, 1004, 1, []), none, none, some (.aload_n 0, 1, 0, 0, []), some (.getfield 19, 3, 11, 1, []), none, none, some (.iload_n 3, 1, 0, 0, []), some (.ineg, 1, 0, 0, []), some (.i2l, 1, 0, 0, []), some (.invokevirtual 261, 3, 1004, 1, []), none, none, some (.bipush (-2), 2, 0, 0, []), none, some (.ireturn, 1, 0, 0, []), some (.aload_n 0, 1, 0, 0, []), some (.getfield 19, 3, 11, 1, []), none, none, some (.aload_n 0, 1, 0, 0, []), some (.getfield 33, 3, 11, 3, []), none, none, some (.getfield 178, 3, 3, 1, []), none, none, some (.aload_n 0, 1, 0, 0, []), some (.getfield 40, 3, 11, 5, []), none, none, some (.getfield 178, 3, 3, 1, []), none, none, some (.isub, 1, 0, 0, []), some (.i2l, 1, 0, 0, []), some (.invokevirtual 261, 3, 1004, 1, []), none, none, some (.aload_n 0, 1, 0, 0, []), some (.getfield 19, 3, 11, 1, []), none, none, some (.aload_n 0, 1, 0, 0, []), some (.getfield 26, 3, 11, 2, []), none, none, some (.aload_n 0, 1, 0, 0, []), some (.getfield 40, 3, 11, 5, []), none, none, some (.aload_n 0, 1, 0, 0, []), some (.getfield 26, 3, 11, 2, []), none, none, some (.aload_n 0, 1, 0, 0, []), some (.getfield 40, 3, 11, 5, []), none, none, some (.iload_n 1, 1, 0, 0, []), some (.invokevirtual 174, 3, 15, 2, []), none, none, some (.invokevirtual 354, 3, 17, 2, []), none, none, some (.i2l, 1, 0, 0, []), some (.invokevirtual 261, 3, 1004, 1, []), none, none, some (.aload_n 0, 1, 0, 0, []), some (.getfield 40, 3, 11, 5, []), none, none, some (.getfield 277, 3, 3, 2, []), none, none, some (.aload_n 0, 1, 0, 0, []), some (.getfield 33, 3, 11, 3, []), none, none, some (.getfield 277, 3, 3, 2, []), none, none, some (.isub, 1, 0, 0, []), some (.ireturn, 1, 0, 0, [])]
def kX11_hires : List (Option zi_I) := [some (.aload_n 0, 1, 0, 0, []), some (.getfield 26, 3, 11, 2, []), none, none, some (.iload_n 1, 1, 0, 0, []), some (.invokevirtual 162, 3, 4, 1, []), none, none, some (.ifCond .eq 14, 3, 22, 0, []), none, none, some (.aload_n 0, 1, 0, 0, []), some (.getfield 26, 3, 11, 2, []), none, none, some (.iload_n 2, 1, 0, 0, []), some (.invokevirtual 339, 3, 2, 1, []), none, none, some (.ifCond .ne 5, 3, 24, 0, []), none, none, some (.iconst (-1), 1, 0, 0, []), some (.ireturn, 1, 0, 0, []), some (.aload_n 0, 1, 0, 0, []), some (.getfield 26, 3, 11, 2, []), none, none, some (.aload_n 0, 1, 0, 0, []), some (.getfield 33, 3, 11, 3, []), none, none, some (.iload_n 1, 1, 0, 0, []), some (.invokevirtual 174, 3, 15, 2, []), none, none, some (.istore_n 3, 1, 0, 0, []), some (.aload_n 0, 1, 0, 0, []), some (.getfield 33, 3, 11, 3, []), none, none, some (.getfield 165, 3, 3, 6, []), none, none, some (.iload_n 1, 1, 0, 0, []), some (.iaload, 1, 0, 0, []), some (.istore 4, 2, 0, 0, []), none, some (.aload_n 0, 1, 0, 0, []), some (.getfield 57, 3, 11, 7, []), none, none, some (.aload_n 0, 1, 0, 0, []), some (.getfield 33, 3, 11, 3, []), none, none, some (.iload_n 1, 1, 0, 0, []), some (.iload_n 2, 1, 0, 0, []), some (.invokevirtual 348, 3, 1801, 3, []), none, none, some (.istore 5, 2, 0, 0, []), none, some (.iconst 0, 1, 0, 0, []), some (.istore 6, 2, 0, 0, []), none, some (.aload_n 0, 1, 0, 0, []), some (.getfield 64, 3, 11, 8, []), none, none, some (.invokevirtual 320, 3, 401, 0, []), none, none, some (.iconst 0, 1, 0, 0, []), some (.istore 7, 2, 0, 0, []), none, some (.iload 7, 2, 0, 0, []), none, some (.bipush 8, 2, 0, 0, []), none, some (.if_icmp .ge 78, 3, 158, 0, []), none, none, some (.iload 4, 2, 0, 0, []), none, some (.iload_n 2, 1, 0, 0, []), some (.if_icmp .eq 72, 3, 158, 0, []), none, none, some (.iload 6, 2, 0, 0, []), none, some (.aload_n 0, 1, 0, 0, []), some (.getfield 26, 3, 11, 2, []), none, none, some (.aload_n 0, 1, 0, 0, []), some (.getfield 33, 3, 11, 3, []), none, none, some (.iload 4, 2, 0, 0, []), none, some (.invokevirtual 317, 3, 16, 2, []), none, none, some (.ior, 1, 0, 0, []), some (.istore 6, 2, 0, 0, []), none, some (.aload_n 0, 1, 0, 0, []), some (.getfield 64, 3, 11, 8, []), none, none, some (.aload_n 0, 1, 0, 0, []), some (.getfield 33, 3, 11, 3, []), none, none, some (.iload 5, 2, 0, 0, []), none, some (.iconst 1, 1, 0, 0, []), some (.if_icmp .ne 8, 3, 126, 0, []), none, none, some (.iload 4, 2, 0, 0, []), none, some (.goto 7, 3, 130, 0, []), none, none, some (.iload 4, 2, 0, 0, []), none, some (.iconst 1, 1, 0, 0, []), some (.isub, 1, 0, 0, []), some (.iload_n 3, 1, 0, 0, []), some (.iload 6, 2, 0, 0, []), none, some (.invokevirtual 323, 3, 402, 4, []), none, none, some (.iload 4, 2, 0, 0, []), none, some (.iload 5, 2, 0, 0, []), none, some (.iconst 1, 1, 0, 0, []), some (.if_icmp .ne 7, 3, 148, 0, []), none, none, some (.iconst 1, 1, 0, 0, []), some (.goto 4, 3, 149, 0, []), none, none, some (.iconst (-1), 1, 0, 0, []), some (.iadd, 1, 0, 0, []), some (.istore 4, 2, 0, 0, []), none, some (.iinc 7 1, 3, 0, 0, []), none, none, some (.goto (-79), 3, 76, 0, []), none, none, some (.aload_n 0, 1, 0, 0, []), some (.aload_n 0, 1, 0, 0, []), some (.getfield 64, 3, 11, 8, []), none, none, some (.iload 6, 2, 0, 0, []), none, some (.invokevirtual 327, 3, 403, 1, []), none, none, some (.invokevirtual 330, 3, 2235, 1, []), none, none, some (.ireturn, 1, 0, 0, [])]
def kX11_rested : List (Option zi_I) := [some (.aload_n 0, 1, 0, 0, []), some (.getfield 26, 3, 11, 2, []), none, none, some (.iload_n 1, 1, 0, 0, []), some (.invokevirtual 162, 3, 4, 1, []), none, none, some (.ifCond .eq 14, 3, 22, 0, []), none, none, some (.aload_n 0, 1, 0, 0, []), some (.getfield 26, 3, 11, 2, []), none, none, some (.iload_n 2, 1, 0, 0, []), some (.invokevirtual 339, 3, 2, 1, []), none, none, some (.ifCond .ne 5, 3, 24, 0, []), none, none, some (.iconst (-1), 1, 0, 0, []), some (.ireturn, 1, 0, 0, []), some (.iconst 0, 1, 0, 0, []), some (.istore_n 3, 1, 0, 0, []), some (.iload_n 3, 1, 0, 0, []), some (.bipush 90, 2, 0, 0, []), none, some (.if_icmp .gt 73, 3, 102, 0, []), none, none, some (.aload_n 0, 1, 0, 0, []), some (.getfield 40, 3, 11, 5, []), none, none, some (.aload_n 0, 1, 0, 0, []), some (.getfield 33, 3, 11, 3, []), none, none, some (.invokevirtual 225, 3, 601, 1, []), none, none, some (.aload_n 0, 1, 0, 0, []), some (.getfield 40, 3, 11, 5, []), none, none, some (.iload_n 3, 1, 0, 0, []), some (.invokevirtual 274, 3, 605, 1, []), none, none, some (.aload_n 0, 1, 0, 0, []), some (.getfield 40, 3, 11, 5, []), none, none, some (.getfield 277, 3, 3, 2, []), none, none, some (.istore 4, 2, 0, 0, []), none, some (.aload_n 0, 1, 0, 0, []), some (.getfield 57, 3, 11, 7, []), none, none, some (.aload_n 0, 1, 0, 0, []), some (.getfield 40, 3, 11, 5, []), none, none, some (.iload_n 1, 1, 0, 0, []), some (.iload_n 2, 1, 0, 0, []), some (.invokevirtual 342, 3, 1807, 3, []), none, none, some (.ifCond .lt 23, 3, 96, 0, []), none, none, some (.aload_n 0, 1, 0, 0, []), some (.getfield 19, 3, 11, 1, []), none, none, some (.aload_n 0, 1, 0, 0, []), some (.getfield 40, 3, 11, 5, []), none, none, some (.getfield 277, 3, 3, 2, []), none, none, some (.iload 4, 2, 0, 0, []), none, some (.isub, 1, 0, 0, []), some (.i2l, 1, 0, 0, []), some (.invokevirtual 302, 3, 1005, 1, []), none, none, some (.iload_n 3, 1, 0, 0, []), some (.ireturn, 1, 0, 0, []), some (.iinc 3 10, 3, 0, 0, []), none, none, some (.goto (-73), 3, 26, 0, []), none, none, some (.bipush (-2), 2, 0, 0, []), none, some (.ireturn, 1, 0, 0, [])]
def kX11_queue : List (Option zi_I) := [some (.aload_n 0, 1, 0, 0, []), some (.getfield 26, 3, 11, 2, []), none, none, some (.iload_n 1, 1, 0, 0, []), some (.invokevirtual 125, 3, 1, 1, []), none, none, some (.ifCond .ne 12, 3, 20, 0, []), none, none, some (.aload_n 0, 1, 0, 0, []), some (.getfield 10, 3, 11, 0, []), none, none, some (.invokevirtual 122, 3, 1604, 0, []), none, none, some (.iconst (-1), 1, 0, 0, []), some (.ireturn, 1, 0, 0, []), some (.aload_n 0, 1, 0, 0, []), some (.getfield 78, 3, 11, 10, []), none, none, some (.aload_n 0, 1, 0, 0, []), some (.getfield 10, 3, 11, 0, []), none, none, some (.invokevirtual 357, 3, 2001, 1, []), none, none, some (.istore_n 2, 1, 0, 0, []), some (.aload_n 0, 1, 0, 0, []), some (.getfield 10, 3, 11, 0, []), none, none, some (.invokevirtual 122, 3, 1604, 0, []), none, none, some (.iload_n 2, 1, 0, 0, []), some (.ifCond .ge 9, 3, 49, 0, []), none, none, some (.iload_n 2, 1, 0, 0, []), some (.iconst 1, 1, 0, 0, []), some (.isub, 1, 0, 0, []), some (.goto 22, 3, 68, 0, []), none, none, some (.aload_n 0, 1, 0, 0, []), some (.getfield 78, 3, 11, 10, []), none, none, some (.aload_n 0, 1, 0, 0, []), some (.getfield 33, 3, 11, 3, []), none, none, some (.iload_n 1, 1, 0, 0, []), some (.invokevirtual 137, 3, 602, 1, []), none, none, some (.aload_n 0, 1, 0, 0, []), some (.getfield 19, 3, 11, 1, []), none, none, some (.invokevirtual 358, 3, 2002, 2, []), none, none, some (.ireturn, 1, 0, 0, [])]
def kX11_jams : List (Option zi_I) := [some (.iconst (-1), 1, 0, 0, []), some (.istore_n 1, 1, 0, 0, []), some (.iconst 0, 1, 0, 0, []), some (.istore_n 2, 1, 0, 0, []), some (.iconst 1, 1, 0, 0, []), some (.istore_n 3, 1, 0, 0, []), some (.aload_n 0, 1, 0, 0, []), some (.getfield 57, 3, 11, 7, []), none, none, some (.aload_n 0, 1, 0, 0, []), some (.getfield 33, 3, 11, 3, []), none, none, some (.invokevirtual 362, 3, 1808, 1, []), none, none, some (.iconst 0, 1, 0, 0, []), some (.istore 4, 2, 0, 0, []), none, some (.iload 4, 2, 0, 0, []), none, some (.bipush 26, 2, 0, 0, []), none, some (.if_icmp .ge 61, 3, 85, 0, []), none, none, some (.iload 4, 2, 0, 0, []), none, some (.iconst 1, 1, 0, 0, []), some (.iadd, 1, 0, 0, []), some (.istore 5, 2, 0, 0, []), none, some (.iload 5, 2, 0, 0, []), none, some (.bipush 26, 2, 0, 0, []), none, some (.if_icmp .ge 42, 3, 79, 0, []), none, none, some (.aload_n 0, 1, 0, 0, []), some (.getfield 57, 3, 11, 7, []), none, none, some (.iconst 1, 1, 0, 0, []), some (.iload 4, 2, 0, 0, []), none, some (.ishl, 1, 0, 0, []), some (.iconst 1, 1, 0, 0, []), some (.iload 5, 2, 0, 0, []), none, some (.ishl, 1, 0, 0, []), some (.ior, 1, 0, 0, []), some (.invokevirtual 365, 3, 1810, 1, []), none, none, some (.istore 6, 2, 0, 0, []), none, some (.iload 6, 2, 0, 0, []), none, some (.iload_n 1, 1, 0, 0, []), some (.if_icmp .le 12, 3, 73, 0, []), none, none, some (.iload 6, 2, 0, 0, []), none, some (.istore_n 1, 1, 0, 0, []), some (.iload 4, 2, 0, 0, []), none, some (.istore_n 2, 1, 0, 0, []), some (.iload 5, 2, 0, 0, []), none, some (.istore_n 3, 1, 0, 0, []), some (.iinc 5 1, 3, 0, 0, []), none, none, some (.goto (-43), 3, 33, 0, []), none, none, some (.iinc 4 1, 3, 0, 0, []), none, none, some (.goto (-62), 3, 20, 0, []), none, none, some (.aload_n 0, 1, 0, 0, []), some (.getfield 19, 3, 11, 1, []), none, none, some (.iload_n 2, 1, 0, 0, []), some (.i2l, 1, 0, 0, []), some (.invokevirtual 302, 3, 1005, 1, []), none, none, some (.aload_n 0, 1, 0, 0, []), some (.getfield 19, 3, 11, 1, []), none, none, some (.iload_n 3, 1, 0, 0, []), some (.i2l, 1, 0, 0, []), some (.invokevirtual 261, 3, 1004, 1, []), none, none, some (.iload_n 1, 1, 0, 0, []), some (.ireturn, 1, 0, 0, [])]
def kX11_heard : List (Option zi_I) := [some (.iload_n 1, 1, 0, 0, []), some (.ifCond .lt 18, 3, 19, 0, []), none, none, some (.iload_n 1, 1, 0, 0, []), some (.bipush 26, 2, 0, 0, []), none, some (.if_icmp .ge 12, 3, 19, 0, []), none, none, some (.iload_n 2, 1, 0, 0, []), some (.ifCond .lt 8, 3, 19, 0, []), none, none, some (.iload_n 2, 1, 0, 0, []), some (.iconst 1, 1, 0, 0, []), some (.if_icmp .le 5, 3, 21, 0, []), none, none, some (.iconst (-1), 1, 0, 0, []), some (.ireturn, 1, 0, 0, []), some (.aload_n 0, 1, 0, 0, []), some (.getfield 71, 3, 11, 9, []), none, none, some (.iload_n 1, 1, 0, 0, []), some (.iload_n 2, 1, 0, 0, []), some (.invokevirtual 368, 3, 803, 2, []), none, none, some (.ifCond .eq 13, 3, 43, 0, []), none, none, some (.aload_n 0, 1, 0, 0, []), some (.getfield 71, 3, 11, 9, []), none, none, some (.invokevirtual 372, 3, 801, 0, []), none, none, some (.goto 4, 3, 44, 0, []), none, none, some (.iconst (-1), 1, 0, 0, []), some (.ireturn, 1, 0, 0, [])]
def kX11_forget : List (Option zi_I) := [some (.aload_n 0, 1, 0, 0, []), some (.getfield 71, 3, 11, 9, []), none, none, some (.invokevirtual 372, 3, 801, 0, []), none, none, some (.istore_n 1, 1, 0, 0, []), some (.aload_n 0, 1, 0, 0, []), some (.getfield 71, 3, 11, 9, []), none, none, some (.invokevirtual 373, 3, 802, 0, []), none, none, some (.iload_n 1, 1, 0, 0, []), some (.ireturn, 1, 0, 0, [])]
def kX11_who : List (Option zi_I) := [some (.aload_n 0, 1, 0, 0, []), some (.getfield 71, 3, 11, 9, []), none, none, some (.invokevirtual 374, 3, 805, 0, []), none, none, some (.istore_n 1, 1, 0, 0, []), some (.aload_n 0, 1, 0, 0, []), some (.getfield 19, 3, 11, 1, []), none, none, some (.iload_n 1, 1, 0, 0, []), some (.invokestatic 305, 3, 2800, 1, []), none, none, some (.i2l, 1, 0, 0, []), some (.invokevirtual 302, 3, 1005, 1, []), none, none, some (.iload_n 1, 1, 0, 0, []), some (.ireturn, 1, 0, 0, [])]
def kX11_listen : List (Option zi_I) := [some (.aload_n 0, 1, 0, 0, []), some (.getfield 71, 3, 11, 9, []), none, none, some (.invokevirtual 374, 3, 805, 0, []), none, none, some (.istore_n 1, 1, 0, 0, []), some (.iload_n 1, 1, 0, 0, []), some (.ifCond .ne 6, 3, 15, 0, []), none, none, some (.bipush (-2), 2, 0, 0, []), none, some (.ireturn, 1, 0, 0, []), some (.iconst 0, 1, 0, 0, []), some (.istore_n 2, 1, 0, 0, []), some (.bipush 9, 2, 0, 0, []), none, some (.istore_n 3, 1, 0, 0, []), some (.iconst 0, 1, 0, 0, []), some (.istore 4, 2, 0, 0, []), none, some (.iload 4, 2, 0, 0, []), none, some (.bipush 26, 2, 0, 0, []), none, some (.if_icmp .ge 33, 3, 60, 0, []), none, none, some (.aload_n 0, 1, 0, 0, []), some (.getfield 71, 3, 11, 9, []), none, none, some (.iload_n 1, 1, 0, 0, []), some (.iload 4, 2, 0, 0, []), none, some (.invokevirtual 377, 3, 806, 2, []), none, none, some (.istore 5, 2, 0, 0, []), none, some (.iload 5, 2, 0, 0, []), none, some (.iload_n 3, 1, 0, 0, []), some (.if_icmp .ge 9, 3, 54, 0, []), none, none, some (.iload 5, 2, 0, 0, []), none, some (.istore_n 3, 1, 0, 0, []), some (.iload 4, 2, 0, 0, []), none, some (.istore_n 2, 1, 0, 0, []), some (.iinc 4 1, 3, 0, 0, []), none, none, some (.goto (-34), 3, 23, 0, []), none, none, some (.aload_n 0, 1, 0, 0, []), some (.getfield 19, 3, 11, 1, []), none, none, some (.iload_n 3, 1, 0, 0, []), some (.i2l, 1, 0, 0, []), some (.invokevirtual 302, 3, 1005, 1, []), none, none, some (.iload_n 2, 1, 0, 0, []), some (.ireturn, 1, 0, 0, [])]
def kX11_parts : List (Option zi_I) := [some (.aload_n 0, 1, 0, 0, []), some (.getfield 71, 3, 11, 9, []), none, none, some (.invokevirtual 380, 3, 807, 0, []), none, none, some (.istore_n 1, 1, 0, 0, []), some (.iload_n 1, 1, 0, 0, []), some (.ifCond .ge 6, 3, 15, 0, []), none, none, some (.bipush (-2), 2, 0, 0, []), none, some (.ireturn, 1, 0, 0, []), some (.aload_n 0, 1, 0, 0, []), some (.getfield 19, 3, 11, 1, []), none, none, some (.iload_n 1, 1, 0, 0, []), some (.i2l, 1, 0, 0, []), some (.invokevirtual 302, 3, 1005, 1, []), none, none, some (.iload_n 1, 1, 0, 0, []), some (.invokestatic 305, 3, 2800, 1, []), none, none, some (.ireturn, 1, 0, 0, [])]
def kX11_opens : List (Option zi_I) := [some (.iload_n 1, 1, 0, 0, []), some (.iconst 1, 1, 0, 0, []), some (.if_icmp .lt 18, 3, 20, 0, []), none, none, some (.iload_n 1, 1, 0, 0, []), some (.iconst 4, 1, 0, 0, []), some (.if_icmp .gt 13, 3, 20, 0, []), none, none, some (.iload_n 2, 1, 0, 0, []), some (.ifCond .lt 9, 3, 20, 0, []), none, none, some (.iload_n 2, 1, 0, 0, []), some (.bipush 10, 2, 0, 0, []), none, some (.if_icmp .le 5, 3, 22, 0, []), none, none, some (.iconst (-1), 1, 0, 0, []), some (.ireturn, 1, 0, 0, []), some (.iload_n 1, 1, 0, 0, []), some (.iload_n 2, 1, 0, 0, []), some (.invokestatic 383, 3, 2251, 2, []), none, none, some (.lstore_n 3, 1, 0, 0, []), some (.ldc2_w 387, 3, 10000, 0, []), none, none, some (.iload_n 1, 1, 0, 0, []), some (.invokestatic 389, 3, 2252, 2, []), none, none, some (.lstore 5, 2, 0, 0, []), none, some (.lload_n 3, 1, 0, 0, []), some (.lload 5, 2, 0, 0, []), none, some (.invokestatic 393, 3, 2253, 2, []), none, none, some (.lstore 7, 2, 0, 0, []), none, some (.lload 7, 2, 0, 0, []), none, some (.lconst 0, 1, 0, 0, []), some (.lcmp, 1, 0, 0, []), some (.ifCond .le 26, 3, 75, 0, []), none, none, some (.aload_n 0, 1, 0, 0, []), some (.getfield 19, 3, 11, 1, []), none, none, some (.lload_n 3, 1, 0, 0, []), some (.lload 7, 2, 0, 0, []), none, some (.ldiv, 1, 0, 0, []), some (.invokevirtual 302, 3, 1005, 1, []), none, none, some (.aload_n 0, 1, 0, 0, []), some (.getfield 19, 3, 11, 1, []), none, none, some (.lload 5, 2, 0, 0, []), none, some (.lload 7, 2, 0, 0, []), none, some (.ldiv, 1, 0, 0, []), some (.invokevirtual 261, 3, 1004, 1, []), none, none, some (.iconst 0, 1, 0, 0, []), some (.ireturn, 1, 0, 0, [])]
def kX11_tries : List (Option zi_I) := [some (.iload_n 1, 1, 0, 0, []), some (.ifCond .lt 19, 3, 20, 0, []), none, none, some (.iload_n 1, 1, 0, 0, []), some (.bipush 10, 2, 0, 0, []), none, some (.if_icmp .gt 13, 3, 20, 0, []), none, none, some (.iload_n 2, 1, 0, 0, []), some (.ifCond .lt 9, 3, 20, 0, []), none, none, some (.iload_n 2, 1, 0, 0, []), some (.bipush 100, 2, 0, 0, []), none, some (.if_icmp .le 5, 3, 22, 0, []), none, none, some (.iconst (-1), 1, 0, 0, []), some (.ireturn, 1, 0, 0, []), some (.iconst 1, 1, 0, 0, []), some (.istore_n 3, 1, 0, 0, []), some (.iload_n 3, 1, 0, 0, []), some (.iconst 4, 1, 0, 0, []), some (.if_icmp .gt 34, 3, 60, 0, []), none, none, some (.iload_n 3, 1, 0, 0, []), some (.iload_n 1, 1, 0, 0, []), some (.invokestatic 383, 3, 2251, 2, []), none, none, some (.ldc2_w 397, 3, 100, 0, []), none, none, some (.lmul, 1, 0, 0, []), some (.iload_n 2, 1, 0, 0, []), some (.i2l, 1, 0, 0, []), some (.ldc2_w 387, 3, 10000, 0, []), none, none, some (.iload_n 3, 1, 0, 0, []), some (.invokestatic 389, 3, 2252, 2, []), none, none, some (.lmul, 1, 0, 0, []), some (.lcmp, 1, 0, 0, []), some (.ifCond .lt 5, 3, 54, 0, []), none, none, some (.iload_n 3, 1, 0, 0, []), some (.ireturn, 1, 0, 0, []), some (.iinc 3 1, 3, 0, 0, []), none, none, some (.goto (-33), 3, 24, 0, []), none, none, some (.bipush (-2), 2, 0, 0, []), none, some (.ireturn, 1, 0, 0, [])]
def kX11_rests : List (Option zi_I) := [some (.iload_n 1, 1, 0, 0, []), some (.ifCond .lt 9, 3, 10, 0, []), none, none, some (.iload_n 1, 1, 0, 0, []), some (.bipush 9, 2, 0, 0, []), none, some (.if_icmp .le 5, 3, 12, 0, []), none, none, some (.iconst (-1), 1, 0, 0, []), some (.ireturn, 1, 0, 0, []), some (.iconst 0, 1, 0, 0, []), some (.istore_n 2, 1, 0, 0, []), some (.aload_n 0, 1, 0, 0, []), some (.getfield 19, 3, 11, 1, []), none, none, some (.invokevirtual 260, 3, 1003, 0, []), none, none, some (.iconst 0, 1, 0, 0, []), some (.istore_n 3, 1, 0, 0, []), some (.iload_n 3, 1, 0, 0, []), some (.bipush 10, 2, 0, 0, []), none, some (.if_icmp .ge 56, 3, 82, 0, []), none, none, some (.iconst 0, 1, 0, 0, []), some (.istore 4, 2, 0, 0, []), none, some (.iload 4, 2, 0, 0, []), none, some (.bipush 10, 2, 0, 0, []), none, some (.if_icmp .ge 40, 3, 76, 0, []), none, none, some (.iload_n 3, 1, 0, 0, []), some (.iload 4, 2, 0, 0, []), none, some (.iload_n 1, 1, 0, 0, []), some (.invokestatic 399, 3, 2254, 3, []), none, none, some (.ifCond .eq 24, 3, 70, 0, []), none, none, some (.iload 4, 2, 0, 0, []), none, some (.iload_n 3, 1, 0, 0, []), some (.iload_n 1, 1, 0, 0, []), some (.invokestatic 399, 3, 2254, 3, []), none, none, some (.ifCond .eq 14, 3, 70, 0, []), none, none, some (.iinc 2 1, 3, 0, 0, []), none, none, some (.aload_n 0, 1, 0, 0, []), some (.iload_n 2, 1, 0, 0, []), some (.iload_n 3, 1, 0, 0, []), some (.iload 4, 2, 0, 0, []), none, some (.invokevirtual 402, 3, 2250, 3, []), none, none, some (.iinc 4 1, 3, 0, 0, []), none, none, some (.goto (-41), 3, 32, 0, []), none, none, some (.iinc 3 1, 3, 0, 0, []), none, none, some (.goto (-56), 3, 23, 0, []), none, none, some (.iload_n 2, 1, 0, 0, []), some (.ireturn, 1, 0, 0, [])]
def kX11_pays : List (Option zi_I) := [some (.aload_n 0, 1, 0, 0, []), some (.getfield 26, 3, 11, 2, []), none, none, some (.iload_n 1, 1, 0, 0, []), some (.invokevirtual 162, 3, 4, 1, []), none, none, some (.ifCond .eq 14, 3, 22, 0, []), none, none, some (.aload_n 0, 1, 0, 0, []), some (.getfield 26, 3, 11, 2, []), none, none, some (.iload_n 2, 1, 0, 0, []), some (.invokevirtual 125, 3, 1, 1, []), none, none, some (.ifCond .ne 5, 3, 24, 0, []), none, none, some (.iconst (-1), 1, 0, 0, []), some (.ireturn, 1, 0, 0, []), some (.aload_n 0, 1, 0, 0, []), some (.getfield 26, 3, 11, 2, []), none, none, some (.aload_n 0, 1, 0, 0, []), some (.getfield 33, 3, 11, 3, []), none, none, some (.aload_n 0, 1, 0, 0, []), some (.getfield 33, 3, 11, 3, []), none, none, some (.getfield 165, 3, 3, 6, []), none, none, some (.iload_n 1, 1, 0, 0, []), some (.iaload, 1, 0, 0, []), some (.invokevirtual 317, 3, 16, 2, []), none, none, some (.istore_n 3, 1, 0, 0, []), some (.aload_n 0, 1, 0, 0, []), some (.getfield 64, 3, 11, 8, []), none, none, some (.invokevirtual 320, 3, 401, 0, []), none, none, some (.aload_n 0, 1, 0, 0, []), some (.getfield 64, 3, 11, 8, []), none, none, some (.aload_n 0, 1, 0, 0, []), some (.getfield 33, 3, 11, 3, []), none, none, some (.iload_n 2, 1, 0, 0, []), some (.aload_n 0, 1, 0, 0, []), some (.getfield 26, 3, 11, 2, []), none, none, some (.aload_n 0, 1, 0, 0, []), some (.getfield 33, 3, 11, 3, []), none, none, some (.iload_n 1, 1, 0, 0, []), some (.invokevirtual 174, 3, 15, 2, []), none, none, some (.iload_n 3, 1, 0, 0, []), some (.invokevirtual 323, 3, 402, 4, []), none, none, some (.aload_n 0, 1, 0, 0, []), some (.getfield 64, 3, 11, 8, []), none, none, some (.iload_n 3, 1, 0, 0, []), some (.invokevirtual 327, 3, 403, 1, []), none, none, some (.istore 4, 2, 0, 0, []), none, some (.iload 4, 2, 0, 0, []), none, some (.ifCond .ge 6, 3, 95, 0, []), none, none, some (.bipush (-2), 2, 0, 0, []), none, some (.ireturn, 1, 0, 0, []), some (.iconst 0, 1, 0, 0, []), some (.istore 5, 2, 0, 0, []), none, some (.aload_n 0, 1, 0, 0, []), some (.getfield 19, 3, 11, 1, []), none, none, some (.invokevirtual 260, 3, 1003, 0, []), none, none, some (.iconst 0, 1, 0, 0, []), some (.istore 6, 2, 0, 0, []), none, some (.iload 6, 2, 0, 0, []), none, some (.aload_n 0, 1, 0, 0, []), some (.getfield 26, 3, 11, 2, []), none, none, some (.getfield 406, 3, 0, 8, []), none, none, some (.if_icmp .ge 77, 3, 194, 0, []), none, none, some (.aload_n 0, 1, 0, 0, []), some (.getfield 64, 3, 11, 8, []), none, none, some (.iload_n 3, 1, 0, 0, []), some (.iconst 1, 1, 0, 0, []), some (.iload 6, 2, 0, 0, []), none, some (.ishl, 1, 0, 0, []), some (.iconst (-1), 1, 0, 0, []), some (.ixor, 1, 0, 0, []), some (.iand, 1, 0, 0, []), some (.invokevirtual 327, 3, 403, 1, []), none, none, some (.istore 7, 2, 0, 0, []), none, some (.iload 7, 2, 0, 0, []), none, some (.ifCond .ge 9, 3, 148, 0, []), none, none, some (.sipush 9999, 3, 0, 0, []), none, none, some (.goto 22, 3, 167, 0, []), none, none, some (.aload_n 0, 1, 0, 0, []), some (.getfield 26, 3, 11, 2, []), none, none, some (.iload 7, 2, 0, 0, []), none, some (.invokevirtual 336, 3, 18, 1, []), none, none, some (.aload_n 0, 1, 0, 0, []), some (.getfield 26, 3, 11, 2, []), none, none, some (.iload 4, 2, 0, 0, []), none, some (.invokevirtual 336, 3, 18, 1, []), none, none, some (.isub, 1, 0, 0, []), some (.istore 8, 2, 0, 0, []), none, some (.aload_n 0, 1, 0, 0, []), some (.getfield 19, 3, 11, 1, []), none, none, some (.iload 8, 2, 0, 0, []), none, some (.i2l, 1, 0, 0, []), some (.invokevirtual 261, 3, 1004, 1, []), none, none, some (.iload 5, 2, 0, 0, []), none, some (.iload 8, 2, 0, 0, []), none, some (.invokestatic 409, 3, 9001, 0, []), none, none, some (.istore 5, 2, 0, 0, []), none, some (.iinc 6 1, 3, 0, 0, []), none, none, some (.goto (-83), 3, 108, 0, []), none, none, some (.iload 5, 2, 0, 0, []), none, some (.ireturn, 1, 0, 0, [])]
def kX11_tellFirstPair : List (Option zi_I) := [some (.iload_n 1, 1, 0, 0, []), some (.iconst 1, 1, 0, 0, []), some (.if_icmp .ne 21, 3, 23, 0, []), none, none, some (.aload_n 0, 1, 0, 0, []), some (.getfield 19, 3, 11, 1, []), none, none, some (.iload_n 2, 1, 0, 0, []), some (.i2l, 1, 0, 0, []), some (.invokevirtual 302, 3, 1005, 1, []), none, none, some (.aload_n 0, 1, 0, 0, []), some (.getfield 19, 3, 11, 1, []), none, none, some (.iload_n 3, 1, 0, 0, []), some (.i2l, 1, 0, 0, []), some (.invokevirtual 261, 3, 1004, 1, []), none, none, some (.return_, 1, 0, 0, [])]
def kX11_chances : List (Option zi_I) := [some (.bipush 10, 2, 0, 0, []), none, some (.iload_n 1, 1, 0, 0, []), some (.isub, 1, 0, 0, []), some (.i2l, 1, 0, 0, []), some (.iconst 4, 1, 0, 0, []), some (.invokestatic 389, 3, 2252, 2, []), none, none, some (.lstore_n 2, 1, 0, 0, []), some (.ldc2_w 387, 3, 10000, 0, []), none, none, some (.iload_n 0, 1, 0, 0, []), some (.invokestatic 389, 3, 2252, 2, []), none, none, some (.ldc2_w 387, 3, 10000, 0, []), none, none, some (.lload_n 2, 1, 0, 0, []), some (.lsub, 1, 0, 0, []), some (.iload_n 0, 1, 0, 0, []), some (.invokestatic 389, 3, 2252, 2, []), none, none, some (.lsub, 1, 0, 0, []), some (.lreturn, 1, 0, 0, [])]
def kX11_power : List (Option zi_I) := [some (.lconst 1, 1, 0, 0, []), some (.lstore_n 3, 1, 0, 0, []), some (.iconst 0, 1, 0, 0, []), some (.istore 5, 2, 0, 0, []), none, some (.iload 5, 2, 0, 0, []), none, some (.iload_n 2, 1, 0, 0, []), some (.if_icmp .ge 13, 3, 21, 0, []), none, none, some (.lload_n 3, 1, 0, 0, []), some (.lload_n 0, 1, 0, 0, []), some (.lmul, 1, 0, 0, []), some (.lstore_n 3, 1, 0, 0, []), some (.iinc 5 1, 3, 0, 0, []), none, none, some (.goto (-13), 3, 5, 0, []), none, none, some (.lload_n 3, 1, 0, 0, []), some (.lreturn, 1, 0, 0, [])]
def kX11_commonDivisor : List (Option zi_I) := [some (.iconst 0, 1, 0, 0, []), some (.istore 4, 2, 0, 0, []), none, some (.iload 4, 2, 0, 0, []), none, some (.sipush 1000, 3, 0, 0, []), none, none, some (.if_icmp .ge 25, 3, 33, 0, []), none, none, some (.lload_n 2, 1, 0, 0, []), some (.lconst 0, 1, 0, 0, []), some (.lcmp, 1, 0, 0, []), some (.ifCond .eq 19, 3, 33, 0, []), none, none, some (.lload_n 0, 1, 0, 0, []), some (.lload_n 2, 1, 0, 0, []), some (.lrem, 1, 0, 0, []), some (.lstore 5, 2, 0, 0, []), none, some (.lload_n 2, 1, 0, 0, []), some (.lstore_n 0, 1, 0, 0, []), some (.lload 5, 2, 0, 0, []), none, some (.lstore_n 2, 1, 0, 0, []), some (.iinc 4 1, 3, 0, 0, []), none, none, some (.goto (-27), 3, 3, 0, []), none, none, some (.lload_n 0, 1, 0, 0, []), some (.lreturn, 1, 0, 0, [])]
def kX11_isBest : List (Option zi_I) := [some (.iload_n 0, 1, 0, 0, []), some (.iload_n 1, 1, 0, 0, []), some (.iload_n 2, 1, 0, 0, []), some (.invokestatic 414, 3, 2255, 3, []), none, none, some (.istore_n 3, 1, 0, 0, []), some (.iconst 0, 1, 0, 0, []), some (.istore 4, 2, 0, 0, []), none, some (.iload 4, 2, 0, 0, []), none, some (.bipush 10, 2, 0, 0, []), none, some (.if_icmp .ge 22, 3, 36, 0, []), none, none, some (.iload 4, 2, 0, 0, []), none, some (.iload_n 1, 1, 0, 0, []), some (.iload_n 2, 1, 0, 0, []), some (.invokestatic 414, 3, 2255, 3, []), none, none, some (.iload_n 3, 1, 0, 0, []), some (.if_icmp .le 5, 3, 30, 0, []), none, none, some (.iconst 0, 1, 0, 0, []), some (.ireturn, 1, 0, 0, []), some (.iinc 4 1, 3, 0, 0, []), none, none, some (.goto (-23), 3, 10, 0, []), none, none, some (.iconst 1, 1, 0, 0, []), some (.ireturn, 1, 0, 0, [])]
def kX11_gain : List (Option zi_I) := [some (.iload_n 0, 1, 0, 0, []), some (.iload_n 1, 1, 0, 0, []), some (.if_icmp .le 5, 3, 7, 0, []), none, none, some (.iconst 0, 1, 0, 0, []), some (.ireturn, 1, 0, 0, []), some (.iload_n 0, 1, 0, 0, []), some (.iload_n 1, 1, 0, 0, []), some (.if_icmp .ge 9, 3, 18, 0, []), none, none, some (.iload_n 0, 1, 0, 0, []), some (.iload_n 2, 1, 0, 0, []), some (.isub, 1, 0, 0, []), some (.goto 8, 3, 23, 0, []), none, none, some (.iload_n 0, 1, 0, 0, []), some (.iload_n 2, 1, 0, 0, []), some (.isub, 1, 0, 0, []), some (.iconst 2, 1, 0, 0, []), some (.idiv, 1, 0, 0, []), some (.ireturn, 1, 0, 0, [])]
def kX11_days : List (Option zi_I) := [some (.iload_n 2, 1, 0, 0, []), some (.iconst 1, 1, 0, 0, []), some (.if_icmp .lt 20, 3, 22, 0, []), none, none, some (.iload_n 2, 1, 0, 0, []), some (.bipush 60, 2, 0, 0, []), none, some (.if_icmp .gt 14, 3, 22, 0, []), none, none, some (.aload_n 0, 1, 0, 0, []), some (.getfield 26, 3, 11, 2, []), none, none, some (.getfield 418, 3, 0, 9, []), none, none, some (.iconst 1, 1, 0, 0, []), some (.if_icmp .ge 5, 3, 24, 0, []), none, none, some (.iconst (-1), 1, 0, 0, []), some (.ireturn, 1, 0, 0, []), some (.aload_n 0, 1, 0, 0, []), some (.getfield 40, 3, 11, 5, []), none, none, some (.aload_n 0, 1, 0, 0, []), some (.getfield 33, 3, 11, 3, []), none, none, some (.invokevirtual 225, 3, 601, 1, []), none, none, some (.iconst 0, 1, 0, 0, []), some (.istore_n 3, 1, 0, 0, []), some (.iload_n 1, 1, 0, 0, []), some (.istore 4, 2, 0, 0, []), none, some (.iconst 0, 1, 0, 0, []), some (.istore 5, 2, 0, 0, []), none, some (.iload 5, 2, 0, 0, []), none, some (.iload_n 2, 1, 0, 0, []), some (.if_icmp .ge 88, 3, 134, 0, []), none, none, some (.iload 4, 2, 0, 0, []), none, some (.invokestatic 421, 3, 2257, 1, []), none, none, some (.istore 4, 2, 0, 0, []), none, some (.iload 4, 2, 0, 0, []), none, some (.bipush 16, 2, 0, 0, []), none, some (.iushr, 1, 0, 0, []), some (.aload_n 0, 1, 0, 0, []), some (.getfield 26, 3, 11, 2, []), none, none, some (.getfield 418, 3, 0, 9, []), none, none, some (.irem, 1, 0, 0, []), some (.istore 6, 2, 0, 0, []), none, some (.iload 4, 2, 0, 0, []), none, some (.invokestatic 421, 3, 2257, 1, []), none, none, some (.istore 4, 2, 0, 0, []), none, some (.iload 4, 2, 0, 0, []), none, some (.bipush 16, 2, 0, 0, []), none, some (.iushr, 1, 0, 0, []), some (.iconst 3, 1, 0, 0, []), some (.irem, 1, 0, 0, []), some (.istore 7, 2, 0, 0, []), none, some (.iload 7, 2, 0, 0, []), none, some (.iconst 2, 1, 0, 0, []), some (.if_icmp .ne 15, 3, 105, 0, []), none, none, some (.aload_n 0, 1, 0, 0, []), some (.getfield 40, 3, 11, 5, []), none, none, some (.bipush 10, 2, 0, 0, []), none, some (.invokevirtual 274, 3, 605, 1, []), none, none, some (.goto 26, 3, 128, 0, []), none, none, some (.aload_n 0, 1, 0, 0, []), some (.getfield 57, 3, 11, 7, []), none, none, some (.aload_n 0, 1, 0, 0, []), some (.getfield 40, 3, 11, 5, []), none, none, some (.iload 6, 2, 0, 0, []), none, some (.iconst 1, 1, 0, 0, []), some (.iload 7, 2, 0, 0, []), none, some (.isub, 1, 0, 0, []), some (.invokevirtual 238, 3, 1805, 3, []), none, none, some (.ifCond .lt 6, 3, 128, 0, []), none, none, some (.iinc 3 1, 3, 0, 0, []), none, none, some (.iinc 5 1, 3, 0, 0, []), none, none, some (.goto (-88), 3, 43, 0, []), none, none, some (.aload_n 0, 1, 0, 0, []), some (.getfield 19, 3, 11, 1, []), none, none, some (.aload_n 0, 1, 0, 0, []), some (.getfield 40, 3, 11, 5, []), none, none, some (.getfield 277, 3, 3, 2, []), none, none, some (.aload_n 0, 1, 0, 0, []), some (.getfield 33, 3, 11, 3, []), none, none, some (.getfield 277, 3, 3, 2, []), none, none, some (.isub, 1, 0, 0, []), some (.i2l, 1, 0, 0, []), some (.invokevirtual 302, 3, 1005, 1, []), none, none, some (.aload_n 0, 1, 0, 0, []), some (.getfield 19, 3, 11, 1, []), none, none, some (.aload_n 0, 1, 0, 0, []), some (.getfield 40, 3, 11, 5, []), none, none, some (.getfield 178, 3, 3, 1, []), none, none, some (.i2l, 1, 0, 0, []), some (.invokevirtual 261, 3, 1004, 1, []), none, none, some (.iload_n 3, 1, 0, 0, []), some (.ireturn, 1, 0, 0, [])]
def kX11_drawNext : List (Option zi_I) := [some (.iload_n 0, 1, 0, 0, []), some (.ldc_w 424, 3, 1103515245, 0, []), none, none, some (.imul, 1, 0, 0, []), some (.sipush 12345, 3, 0, 0, []), none, none, some (.iadd, 1, 0, 0, []), some (.ireturn, 1, 0, 0, [])]
def kX11_keep : List (Option zi_I) := [some (.iload_n 1, 1, 0, 0, []), some (.ifCond .lt 8, 3, 9, 0, []), none, none, some (.iload_n 1, 1, 0, 0, []), some (.iconst 3, 1, 0, 0, []), some (.if_icmp .lt 5, 3, 11, 0, []), none, none, some (.iconst 0, 1, 0, 0, []), some (.ireturn, 1, 0, 0, []), some (.aload_n 0, 1, 0, 0, []), some (.getfield 89, 3, 11, 12, []), none, none, some (.iload_n 1, 1, 0, 0, []), some (.aaload, 1, 0, 0, []), some (.aload_n 0, 1, 0, 0, []), some (.getfield 33, 3, 11, 3, []), none, none, some (.invokevirtual 225, 3, 601, 1, []), none, none, some (.aload_n 0, 1, 0, 0, []), some (.dup, 1, 0, 0, []), some (.getfield 206, 3, 11, 14, []), none, none, some (.iconst 1, 1, 0, 0, []), some (.iload_n 1, 1, 0, 0, []), some (.ishl, 1, 0, 0, []), some (.ior, 1, 0, 0, []), some (.putfield 206, 3, 11, 14, []), none, none, some (.iconst 1, 1, 0, 0, []), some (.ireturn, 1, 0, 0, [])]
def kX11_again : List (Option zi_I) := [some (.iload_n 1, 1, 0, 0, []), some (.ifCond .lt 19, 3, 20, 0, []), none, none, some (.iload_n 1, 1, 0, 0, []), some (.iconst 3, 1, 0, 0, []), some (.if_icmp .ge 14, 3, 20, 0, []), none, none, some (.aload_n 0, 1, 0, 0, []), some (.getfield 206, 3, 11, 14, []), none, none, some (.iconst 1, 1, 0, 0, []), some (.iload_n 1, 1, 0, 0, []), some (.ishl, 1, 0, 0, []), some (.iand, 1, 0, 0, []), some (.ifCond .ne 5, 3, 22, 0, []), none, none, some (.iconst 0, 1, 0, 0, []), some (.ireturn, 1, 0, 0, []), some (.aload_n 0, 1, 0, 0, []), some (.getfield 33, 3, 11, 3, []), none, none, some (.aload_n 0, 1, 0, 0, []), some (.getfield 89, 3, 11, 12, []), none, none, some (.iload_n 1, 1, 0, 0, []), some (.aaload, 1, 0, 0, []), some (.invokevirtual 225, 3, 601, 1, []), none, none, some (.aload_n 0, 1, 0, 0, []), some (.getfield 85, 3, 11, 11, []), none, none, some (.invokevirtual 205, 3, 1202, 0, []), none, none, some (.iconst 1, 1, 0, 0, []), some (.ireturn, 1, 0, 0, [])]
def kX11_count : List (Option zi_I) := [some (.iload_n 1, 1, 0, 0, []), some (.tableswitch 176 0 12 #[67, 67, 67, 76, 84, 92, 100, 108, 121, 144, 152, 160, 168], 67, 177, 0, [(0, 68), (1, 68), (2, 68), (3, 77), (4, 85), (5, 93), (6, 101), (7, 109), (8, 122), (9, 145), (10, 153), (11, 161), (12, 169)]), none, none, none, none, none, none, none, none, none, none, none, none, none, none, none, none, none, none, none, none, none, none, none, none, none, none, none, none, none, none, none, none, none, none, none, none, none, none, none, none, none, none, none, none, none, none, none, none, none, none, none, none, none, none, none, none, none, none, none, none, none, none, none, none, none, none, some (.aload_n 0, 1, 0, 0, []), some (.getfield 26, 3, 11, 2, []), none, none, some (.iload_n 1, 1, 0, 0, []), some (.invokevirtual 209, 3, 5, 1, []), none, none, some (.ireturn, 1, 0, 0, []), some (.aload_n 0, 1, 0, 0, []), some (.getfield 33, 3, 11, 3, []), none, none, some (.getfield 277, 3, 3, 2, []), none, none, some (.ireturn, 1, 0, 0, []), some (.aload_n 0, 1, 0, 0, []), some (.getfield 33, 3, 11, 3, []), none, none, some (.getfield 178, 3, 3, 1, []), none, none, some (.ireturn, 1, 0, 0, []), some (.aload_n 0, 1, 0, 0, []), some (.getfield 26, 3, 11, 2, []), none, none, some (.getfield 183, 3, 0, 10, []), none, none, some (.ireturn, 1, 0, 0, []), some (.aload_n 0, 1, 0, 0, []), some (.getfield 33, 3, 11, 3, []), none, none, some (.getfield 425, 3, 3, 0, []), none, none, some (.ireturn, 1, 0, 0, []), some (.aload_n 0, 1, 0, 0, []), some (.getfield 26, 3, 11, 2, []), none, none, some (.aload_n 0, 1, 0, 0, []), some (.getfield 33, 3, 11, 3, []), none, none, some (.iconst (-1), 1, 0, 0, []), some (.invokevirtual 174, 3, 15, 2, []), none, none, some (.ireturn, 1, 0, 0, []), some (.aload_n 0, 1, 0, 0, []), some (.getfield 26, 3, 11, 2, []), none, none, some (.aload_n 0, 1, 0, 0, []), some (.getfield 33, 3, 11, 3, []), none, none, some (.iconst 1, 1, 0, 0, []), some (.aload_n 0, 1, 0, 0, []), some (.getfield 26, 3, 11, 2, []), none, none, some (.getfield 406, 3, 0, 8, []), none, none, some (.ishl, 1, 0, 0, []), some (.iconst 1, 1, 0, 0, []), some (.isub, 1, 0, 0, []), some (.invokevirtual 354, 3, 17, 2, []), none, none, some (.ireturn, 1, 0, 0, []), some (.aload_n 0, 1, 0, 0, []), some (.getfield 71, 3, 11, 9, []), none, none, some (.invokevirtual 372, 3, 801, 0, []), none, none, some (.ireturn, 1, 0, 0, []), some (.aload_n 0, 1, 0, 0, []), some (.getfield 85, 3, 11, 11, []), none, none, some (.invokevirtual 268, 3, 1201, 0, []), none, none, some (.ireturn, 1, 0, 0, []), some (.aload_n 0, 1, 0, 0, []), some (.getfield 19, 3, 11, 1, []), none, none, some (.invokevirtual 428, 3, 1001, 0, []), none, none, some (.ireturn, 1, 0, 0, []), some (.aload_n 0, 1, 0, 0, []), some (.getfield 10, 3, 11, 0, []), none, none, some (.invokevirtual 101, 3, 1601, 0, []), none, none, some (.ireturn, 1, 0, 0, []), some (.bipush (-100), 2, 0, 0, []), none, some (.ireturn, 1, 0, 0, [])]
def kX11_row : List (Option zi_I) := [some (.iload_n 1, 1, 0, 0, []), some (.ifCond .lt 14, 3, 15, 0, []), none, none, some (.iload_n 1, 1, 0, 0, []), some (.aload_n 0, 1, 0, 0, []), some (.getfield 19, 3, 11, 1, []), none, none, some (.invokevirtual 428, 3, 1001, 0, []), none, none, some (.if_icmp .lt 11, 3, 23, 0, []), none, none, none, none, none, some (.dup, 1, 0, 0, []), none, none, none, none, some (.aload_n 0, 1, 0, 0, []), some (.getfield 19, 3, 11, 1, []), none, none, some (.iload_n 1, 1, 0, 0, []), some (.invokevirtual 429, 3, 1002, 1, []), none, none, some (.lreturn, 1, 0, 0, [])]
def kX12_init : List (Option zi_I) := [some (.aload_n 0, 1, 0, 0, []), some (.invokespecial 3, 3, 9000, 0, []), none, none, some (.aload_n 0, 1, 0, 0, []), some (.bipush 24, 2, 0, 0, []), none, some (.newarray .long, 2, 0, 0, []), none, some (.putfield 9, 3, 12, 2, []), none, none, some (.aload_n 0, 1, 0, 0, []), some (.bipush 32, 2, 0, 0, []), none, some (.newarray .int, 2, 0, 0, []), none, some (.putfield 13, 3, 12, 8, []), none, none, some (.aload_n 0, 1, 0, 0, []), some (.bipush 8, 2, 0, 0, []), none, some (.newarray .int, 2, 0, 0, []), none, some (.putfield 17, 3, 12, 9, []), none, none, some (.aload_n 0, 1, 0, 0, []), some (.bipush 8, 2, 0, 0, []), none, some (.newarray .int, 2, 0, 0, []), none, some (.putfield 20, 3, 12, 10, []), none, none, some (.aload_n 0, 1, 0, 0, []), some (.bipush 8, 2, 0, 0, []), none, some (.newarray .int, 2, 0, 0, []), none, some (.putfield 23, 3, 12, 11, []), none, none, some (.aload_n 0, 1, 0, 0, []), some (.bipush 8, 2, 0, 0, []), none, some (.newarray .int, 2, 0, 0, []), none, some (.putfield 26, 3, 12, 12, []), none, none, some (.aload_n 0, 1, 0, 0, []), some (.iconst 4, 1, 0, 0, []), some (.newarray .int, 2, 0, 0, []), none, some (.putfield 29, 3, 12, 13, []), none, none, some (.aload_n 0, 1, 0, 0, []), some (.bipush 42, 2, 0, 0, []), none, some (.newarray .int, 2, 0, 0, []), none, some (.dup, 1, 0, 0, []), some (.iconst 0, 1, 0, 0, []), some (.iconst 0, 1, 0, 0, []), some (.iastore, 1, 0, 0, []), some (.dup, 1, 0, 0, []), some (.iconst 1, 1, 0, 0, []), some (.iconst 0, 1, 0, 0, []), some (.iastore, 1, 0, 0, []), some (.dup, 1, 0, 0, []), some (.iconst 2, 1, 0, 0, []), some (.iconst 0, 1, 0, 0, []), some (.iastore, 1, 0, 0, []), some (.dup, 1, 0, 0, []), some (.iconst 3, 1, 0, 0, []), some (.iconst 0, 1, 0, 0, []), some (.iastore, 1, 0, 0, []), some (.dup, 1, 0, 0, []), some (.iconst 4, 1, 0, 0, []), some (.iconst 0, 1, 0, 0, []), some (.iastore, 1, 0, 0, []), some (.dup, 1, 0, 0, []), some (.iconst 5, 1, 0, 0, []), some (.iconst 0, 1, 0, 0, []), some (.iastore, 1, 0, 0, []), some (.dup, 1, 0, 0, []), some (.bipush 6, 2, 0, 0, []), none, some (.iconst 0, 1, 0, 0, []), some (.iastore, 1, 0, 0, []), some (.dup, 1, 0, 0, []), some (.bipush 7, 2, 0, 0, []), none, some (.iconst 0, 1, 0, 0, []), some (.iastore, 1, 0, 0, []), some (.dup, 1, 0, 0, []), some (.bipush 8, 2, 0, 0, []), none, some (.bipush 20, 2, 0, 0, []), none, some (.iastore, 1, 0, 0, []), some (.dup, 1, 0, 0, []), some (.bipush 9, 2, 0, 0, []), none, some (.iconst 0, 1, 0, 0, []), some (.iastore, 1, 0, 0, []), some (.dup, 1, 0, 0, []), some (.bipush 10, 2, 0, 0, []), none, some (.iconst 0, 1, 0, 0, []), some (.iastore, 1, 0, 0, []), some (.dup, 1, 0, 0, []), some (.bipush 11, 2, 0, 0, []), none, some (.iconst 0, 1, 0, 0, []), some (.iastore, 1, 0, 0, []), some (.dup, 1, 0, 0, []), some (.bipush 12, 2, 0, 0, []), none, some (.iconst 0, 1, 0, 0, []), some (.iastore, 1, 0, 0, []), some (.dup, 1, 0, 0, []), some (.bipush 13, 2, 0, 0, []), none, some (.iconst 0, 1, 0, 0, []), some (.iastore, 1, 0, 0, []), some (.dup, 1, 0, 0, []), some (.bipush 14, 2, 0, 0, []), none, some (.iconst 0, 1, 0, 0, []), some (.iastore, 1, 0, 0, []), some (.dup, 1, 0, 0, []), some (.bipush 15, 2, 0, 0, []), none, some (.iconst 0, 1, 0, 0, []), some (.iastore, 1, 0, 0, []), some (.dup, 1, 0, 0, []), some (.bipush 16, 2, 0, 0, []), none, some (.iconst 0, 1, 0, 0, []), some (.iastore, 1, 0, 0, []), some (.dup, 1, 0, 0, []), some (.bipush 17, 2, 0, 0, []), none, some (.iconst 0, 1, 0, 0, []), some (.iastore, 1, 0, 0, []), some (.dup, 1, 0, 0, []), some (.bipush 18, 2, 0, 0, []), none, some (.iconst 0, 1, 0, 0, []), some (.iastore, 1, 0, 0, []), some (.dup, 1, 0, 0, []), some (.bipush 19, 2, 0, 0, []), none, some (.iconst 0, 1, 0, 0, []), some (.iastore, 1, 0, 0, []), some (.dup, 1, 0, 0, []), some (.bipush 20, 2, 0, 0, []), none, some (.iconst 0, 1, 0, 0, []), some (.iastore, 1, 0, 0, []), some (.dup, 1, 0, 0, []), some (.bipush 21, 2, 0, 0, []), none, some (.iconst 0, 1, 0, 0, []), some (.iastore, 1, 0, 0, []), some (.dup, 1, 0, 0, []), some (.bipush 22, 2, 0, 0, []), none, some (.iconst 0, 1, 0, 0, []), some (.iastore, 1, 0, 0, []), some (.dup, 1, 0, 0, []), some (.bipush 23, 2, 0, 0, []), none, some (.iconst 0, 1, 0, 0, []), some (.iastore, 1, 0, 0, []), some (.dup, 1, 0, 0, []), some (.bipush 24, 2, 0, 0, []), none, some (.iconst 0, 1, 0, 0, []), some (.iastore, 1, 0, 0, []), some (.dup, 1, 0, 0, []), some (.bipush 25, 2, 0, 0, []), none, some (.iconst 0, 1, 0, 0, []), some (.iastore, 1, 0, 0, []), some (.dup, 1, 0, 0, []), some (.bipush 26, 2, 0, 0, []), none, some (.iconst 0, 1, 0, 0, []), some (.iastore, 1, 0, 0, []), some (.dup, 1, 0, 0, []), some (.bipush 27, 2, 0, 0, []), none, some (.iconst 0, 1, 0, 0, []), some (.iastore, 1, 0, 0, []), some (.dup, 1, 0, 0, []), some (.bipush 28, 2, 0, 0, []), none, some (.iconst 0, 1, 0, 0, []), some (.iastore, 1, 0, 0, []), some (.dup, 1, 0, 0, []), some (.bipush 29, 2, 0, 0, []), none, some (.iconst 0, 1, 0, 0, []), some (.iastore, 1, 0, 0, []), some (.dup, 1, 0, 0, []), some (.bipush 30, 2, 0, 0, []), none, some (.iconst 0, 1, 0, 0, []), some (.iastore, 1, 0, 0, []), some (.dup, 1, 0, 0, []), some (.bipush 31, 2, 0, 0, []), none, some (.iconst 0, 1, 0, 0, []), some (.iastore, 1, 0, 0, []), some (.dup, 1, 0, 0, []), some (.bipush 32, 2, 0, 0, []), none, some (.iconst 0, 1, 0, 0, []), some (.iastore, 1, 0, 0, []), some (.dup, 1, 0, 0, []), some (.bipush 33, 2, 0, 0, []), none, some (.iconst 0, 1, 0, 0, []), some (.iastore, 1, 0, 0, []), some (.dup, 1, 0, 0, []), some (.bipush 34, 2, 0, 0, []), none, some (.iconst 0, 1, 0, 0, []), some (.iastore, 1, 0, 0, []), some (.dup, 1, 0, 0, []), some (.bipush 35, 2, 0, 0, []), none, some (.iconst 0, 1, 0, 0, []), some (.iastore, 1, 0, 0, []), some (.dup, 1, 0, 0, []), some (.bipush 36, 2, 0, 0, []), none, some (.iconst 0, 1, 0, 0, []), some (.iastore, 1, 0, 0, []), some (.dup, 1, 0, 0, []), some (.bipush 37, 2, 0, 0, []), none, some (.iconst 0, 1, 0, 0, []), some (.iastore, 1, 0, 0, []), some (.dup, 1, 0, 0, []), some (.bipush 38, 2, 0, 0, []), none, some (.iconst 0, 1, 0, 0, []), some (.iastore, 1, 0, 0, []), some (.dup, 1, 0, 0, []), some (.bipush 39, 2, 0, 0, []), none, some (.iconst 0, 1, 0, 0, []), some (.iastore, 1, 0, 0, []), some (.dup, 1, 0, 0, []), some (.bipush 40, 2, 0, 0, []), none, some (.iconst 0, 1, 0, 0, []), some (.iastore, 1, 0, 0, []), some (.dup, 1, 0, 0, []), some (.bipush 41, 2, 0, 0, []), none, some (.iconst 0, 1, 0, 0, []), some (.iastore, 1, 0, 0, []), some (.putfield 32, 3, 12, 14, []), none, none, some (.aload_n 0, 1, 0, 0, []), some (.bipush 42, 2, 0, 0, []), none, some (.newarray .int, 2, 0, 0, []), none, some (.putfield 35, 3, 12, 15, []), none, none, some (.aload_n 0, 1, 0, 0, []), some (.bipush 80, 2, 0, 0, []), none, some (.newarray .int, 2, 0, 0, []), none, some (.putfield 38, 3, 12, 16, []), none, none, some (.aload_n 0, 1, 0, 0, []), some (.bipush 40, 2, 0, 0, []), none, some (.newarray .int, 2, 0, 0, []), none, some (.putfield 41, 3, 12, 21, []), none, none, some (.aload_n 0, 1, 0, 0, []), some (.bipush 80, 2, 0, 0, []), none, some (.newarray .int, 2, 0, 0, []), none, some (.putfield 44, 3, 12, 23, []), none, none, some (.aload_n 0, 1, 0, 0, []), some (.bipush 80, 2, 0, 0, []), none, some (.newarray .int, 2, 0, 0, []), none, some (.putfield 47, 3, 12, 24, []), none, none, some (.aload_n 0, 1, 0, 0, []), some (.bipush 80, 2, 0, 0, []), none, some (.newarray .int, 2, 0, 0, []), none, some (.putfield 50, 3, 12, 27, []), none, none, some (.aload_n 0, 1, 0, 0, []), some (.bipush 7, 2, 0, 0, []), none, some (.newarray .int, 2, 0, 0, []), none, some (.putfield 53, 3, 12, 28, []), none, none, some (.aload_n 0, 1, 0, 0, []), some (.iconst 4, 1, 0, 0, []), some (.newarray .int, 2, 0, 0, []), none, some (.putfield 56, 3, 12, 29, []), none, none, some (.aload_n 0, 1, 0, 0, []), some (.iconst 4, 1, 0, 0, []), some (.newarray .int, 2, 0, 0, []), none, some (.putfield 59, 3, 12, 30, []), none, none, some (.aload_n 0, 1, 0, 0, []), some (.sipush 672, 3, 0, 0, []), none, none, some (.newarray .int, 2, 0, 0, []), none, some (.putfield 62, 3, 12, 32, []), none, none, some (.aload_n 0, 1, 0, 0, []), some (.bipush 60, 2, 0, 0, []), none, some (.newarray .int, 2, 0, 0, []), none, some (.putfield 65, 3, 12, 33, []), none, none, some (.aload_n 0, 1, 0, 0, []), some (.bipush 60, 2, 0, 0, []), none, some (.newarray .int, 2, 0, 0, []), none, some (.putfield 68, 3, 12, 34, []), none, none, some (.aload_n 0, 1, 0, 0, []), some (.bipush 60, 2, 0, 0, []), none, some (.newarray .int, 2, 0, 0, []), none, some (.putfield 71, 3, 12, 35, []), none, none, some (.aload_n 0, 1, 0, 0, []), some (.bipush 14, 2, 0, 0, []), none, some (.newarray .int, 2, 0, 0, []), none, some (.putfield 74, 3, 12, 40, []), none, none, some (.aload_n 0, 1, 0, 0, []), some (.bipush 14, 2, 0, 0, []), none, some (.newarray .int, 2, 0, 0, []), none, some (.putfield 77, 3, 12, 41, []), none, none, some (.aload_n 0, 1, 0, 0, []), some (.sipush 450, 3, 0, 0, []), none, none, some (.newarray .int, 2, 0, 0, []), none, some (.putfield 80, 3, 12, 44, []), none, none, some (.aload_n 0, 1, 0, 0, []), some (.bipush 12, 2, 0, 0, []), none, some (.newarray .int, 2, 0, 0, []), none, some (.putfield 83, 3, 12, 46, []), none, none, some (.aload_n 0, 1, 0, 0, []), some (.bipush 12, 2, 0, 0, []), none, some (.newarray .int, 2, 0, 0, []), none, some (.putfield 86, 3, 12, 47, []), none, none, some (.aload_n 0, 1, 0, 0, []), some (.iconst 3, 1, 0, 0, []), some (.newarray .boolean, 2, 0, 0, []), none, some (.putfield 89, 3, 12, 50, []), none, none, some (.aload_n 0, 1, 0, 0, []), some (.iconst 3, 1, 0, 0, []), some (.newarray .int, 2, 0, 0, []), none, some (.putfield 93, 3, 12, 51, []), none, none, some (.aload_n 0, 1, 0, 0, []), some (.bipush 126, 2, 0, 0, []), none, some (.newarray .int, 2, 0, 0, []), none, some (.putfield 96, 3, 12, 52, []), none, none, some (.return_, 1, 0, 0, [])]
def kX12_thrown : List (Option zi_I) := [some (.aload_n 0, 1, 0, 0, []), some (.getfield 99, 3, 12, 0, []), none, none, some (.ireturn, 1, 0, 0, [])]
def kX12_refuse : List (Option zi_I) := [some (.aload_n 0, 1, 0, 0, []), some (.iconst 1, 1, 0, 0, []), some (.putfield 99, 3, 12, 0, []), none, none, some (.iconst 0, 1, 0, 0, []), some (.ireturn, 1, 0, 0, [])]
def kX12_in : List (Option zi_I) := [some (.lload_n 0, 1, 0, 0, []), some (.lload_n 2, 1, 0, 0, []), some (.lcmp, 1, 0, 0, []), some (.ifCond .lt 14, 3, 17, 0, []), none, none, some (.lload_n 0, 1, 0, 0, []), some (.lload 4, 2, 0, 0, []), none, some (.lcmp, 1, 0, 0, []), some (.ifCond .gt 7, 3, 17, 0, []), none, none, some (.iconst 1, 1, 0, 0, []), some (.goto 4, 3, 18, 0, []), none, none, some (.iconst 0, 1, 0, 0, []), some (.ireturn, 1, 0, 0, [])]
def kX12_has : List (Option zi_I) := [some (.iload_n 0, 1, 0, 0, []), some (.iload_n 1, 1, 0, 0, []), some (.ishr, 1, 0, 0, []), some (.iconst 1, 1, 0, 0, []), some (.iand, 1, 0, 0, []), some (.iconst 1, 1, 0, 0, []), some (.if_icmp .ne 7, 3, 13, 0, []), none, none, some (.iconst 1, 1, 0, 0, []), some (.goto 4, 3, 14, 0, []), none, none, some (.iconst 0, 1, 0, 0, []), some (.ireturn, 1, 0, 0, [])]
def kX12_flag : List (Option zi_I) := [some (.iload_n 0, 1, 0, 0, []), some (.ifCond .eq 7, 3, 8, 0, []), none, none, some (.iconst 1, 1, 0, 0, []), some (.goto 4, 3, 9, 0, []), none, none, some (.iconst 0, 1, 0, 0, []), some (.ireturn, 1, 0, 0, [])]
def kX12_common : List (Option zi_I) := [some (.lload_n 2, 1, 0, 0, []), some (.lconst 0, 1, 0, 0, []), some (.lcmp, 1, 0, 0, []), some (.ifCond .ne 7, 3, 10, 0, []), none, none, some (.lload_n 0, 1, 0, 0, []), some (.goto 10, 3, 17, 0, []), none, none, some (.lload_n 2, 1, 0, 0, []), some (.lload_n 0, 1, 0, 0, []), some (.lload_n 2, 1, 0, 0, []), some (.lrem, 1, 0, 0, []), some (.invokestatic 103, 3, 2406, 2, []), none, none, some (.lreturn, 1, 0, 0, [])]
def kX12_enters : List (Option zi_I) := [some (.aload_n 0, 1, 0, 0, []), some (.getfield 9, 3, 12, 2, []), none, none, some (.aload_n 0, 1, 0, 0, []), some (.getfield 107, 3, 12, 1, []), none, none, some (.lload_n 1, 1, 0, 0, []), some (.lastore, 1, 0, 0, []), some (.aload_n 0, 1, 0, 0, []), some (.dup, 1, 0, 0, []), some (.getfield 107, 3, 12, 1, []), none, none, some (.iconst 1, 1, 0, 0, []), some (.iadd, 1, 0, 0, []), some (.putfield 107, 3, 12, 1, []), none, none, some (.return_, 1, 0, 0, [])]
def kX12_isLock : List (Option zi_I) := [some (.iload_n 1, 1, 0, 0, []), some (.i2l, 1, 0, 0, []), some (.lconst 0, 1, 0, 0, []), some (.aload_n 0, 1, 0, 0, []), some (.getfield 110, 3, 12, 3, []), none, none, some (.iconst 1, 1, 0, 0, []), some (.isub, 1, 0, 0, []), some (.i2l, 1, 0, 0, []), some (.invokestatic 113, 3, 2403, 3, []), none, none, some (.ireturn, 1, 0, 0, [])]
def kX12_isSinger : List (Option zi_I) := [some (.iload_n 1, 1, 0, 0, []), some (.i2l, 1, 0, 0, []), some (.lconst 0, 1, 0, 0, []), some (.aload_n 0, 1, 0, 0, []), some (.getfield 117, 3, 12, 4, []), none, none, some (.iconst 1, 1, 0, 0, []), some (.isub, 1, 0, 0, []), some (.i2l, 1, 0, 0, []), some (.invokestatic 113, 3, 2403, 3, []), none, none, some (.ireturn, 1, 0, 0, [])]
def kX12_isBarge : List (Option zi_I) := [some (.iload_n 1, 1, 0, 0, []), some (.i2l, 1, 0, 0, []), some (.lconst 0, 1, 0, 0, []), some (.aload_n 0, 1, 0, 0, []), some (.getfield 120, 3, 12, 5, []), none, none, some (.iconst 1, 1, 0, 0, []), some (.isub, 1, 0, 0, []), some (.i2l, 1, 0, 0, []), some (.invokestatic 113, 3, 2403, 3, []), none, none, some (.ireturn, 1, 0, 0, [])]
def kX12_isPlace : List (Option zi_I) := [some (.iload_n 1, 1, 0, 0, []), some (.i2l, 1, 0, 0, []), some (.lconst 0, 1, 0, 0, []), some (.aload_n 0, 1, 0, 0, []), some (.getfield 110, 3, 12, 3, []), none, none, some (.i2l, 1, 0, 0, []), some (.invokestatic 113, 3, 2403, 3, []), none, none, some (.ireturn, 1, 0, 0, [])]
def kX12_placeOf : List (Option zi_I) := [some (.aload_n 0, 1, 0, 0, []), some (.bipush 34, 2, 0, 0, []), none, some (.iconst 2, 1, 0, 0, []), some (.iload_n 1, 1, 0, 0, []), some (.imul, 1, 0, 0, []), some (.iadd, 1, 0, 0, []), some (.iconst 0, 1, 0, 0, []), some (.iadd, 1, 0, 0, []), some (.iaload, 1, 0, 0, []), some (.ireturn, 1, 0, 0, [])]
def kX12_crewOf : List (Option zi_I) := [some (.aload_n 0, 1, 0, 0, []), some (.bipush 10, 2, 0, 0, []), none, some (.iconst 3, 1, 0, 0, []), some (.iload_n 1, 1, 0, 0, []), some (.imul, 1, 0, 0, []), some (.iadd, 1, 0, 0, []), some (.iconst 1, 1, 0, 0, []), some (.iadd, 1, 0, 0, []), some (.iaload, 1, 0, 0, []), some (.ireturn, 1, 0, 0, [])]
def kX12_tiredOf : List (Option zi_I) := [some (.aload_n 0, 1, 0, 0, []), some (.bipush 10, 2, 0, 0, []), none, some (.iconst 3, 1, 0, 0, []), some (.iload_n 1, 1, 0, 0, []), some (.imul, 1, 0, 0, []), some (.iadd, 1, 0, 0, []), some (.iconst 2, 1, 0, 0, []), some (.iadd, 1, 0, 0, []), some (.iaload, 1, 0, 0, []), some (.ireturn, 1, 0, 0, [])]
def kX12_crew : List (Option zi_I) := [some (.iconst 0, 1, 0, 0, []), some (.istore_n 3, 1, 0, 0, []), some (.iconst 0, 1, 0, 0, []), some (.istore 4, 2, 0, 0, []), none, some (.iload 4, 2, 0, 0, []), none, some (.aload_n 0, 1, 0, 0, []), some (.getfield 117, 3, 12, 4, []), none, none, some (.if_icmp .ge 30, 3, 41, 0, []), none, none, some (.iload_n 3, 1, 0, 0, []), some (.aload_n 1, 1, 0, 0, []), some (.iload 4, 2, 0, 0, []), none, some (.invokestatic 123, 3, 2413, 2, []), none, none, some (.iload_n 2, 1, 0, 0, []), some (.if_icmp .ne 10, 3, 32, 0, []), none, none, some (.iconst 1, 1, 0, 0, []), some (.iload 4, 2, 0, 0, []), none, some (.ishl, 1, 0, 0, []), some (.goto 4, 3, 33, 0, []), none, none, some (.iconst 0, 1, 0, 0, []), some (.ior, 1, 0, 0, []), some (.istore_n 3, 1, 0, 0, []), some (.iinc 4 1, 3, 0, 0, []), none, none, some (.goto (-33), 3, 5, 0, []), none, none, some (.iload_n 3, 1, 0, 0, []), some (.ireturn, 1, 0, 0, [])]
def kX12_whereIs : List (Option zi_I) := [some (.aload_n 0, 1, 0, 0, []), some (.getfield 32, 3, 12, 14, []), none, none, some (.iload_n 1, 1, 0, 0, []), some (.invokestatic 123, 3, 2413, 2, []), none, none, some (.istore_n 2, 1, 0, 0, []), some (.iload_n 2, 1, 0, 0, []), some (.ifCond .ge 19, 3, 29, 0, []), none, none, some (.aload_n 0, 1, 0, 0, []), some (.getfield 32, 3, 12, 14, []), none, none, some (.bipush 10, 2, 0, 0, []), none, some (.iconst 3, 1, 0, 0, []), some (.iload_n 1, 1, 0, 0, []), some (.imul, 1, 0, 0, []), some (.iadd, 1, 0, 0, []), some (.iconst 0, 1, 0, 0, []), some (.iadd, 1, 0, 0, []), some (.iaload, 1, 0, 0, []), some (.goto 11, 3, 37, 0, []), none, none, some (.aload_n 0, 1, 0, 0, []), some (.getfield 32, 3, 12, 14, []), none, none, some (.iload_n 2, 1, 0, 0, []), some (.invokestatic 127, 3, 2412, 2, []), none, none, some (.ireturn, 1, 0, 0, [])]
def kX12_sign : List (Option zi_I) := [some (.aload_n 0, 1, 0, 0, []), some (.iconst 0, 1, 0, 0, []), some (.putfield 99, 3, 12, 0, []), none, none, some (.aload_n 0, 1, 0, 0, []), some (.getfield 130, 3, 12, 17, []), none, none, some (.bipush 76, 2, 0, 0, []), none, some (.if_icmp .le 5, 3, 16, 0, []), none, none, some (.iconst (-1), 1, 0, 0, []), some (.ireturn, 1, 0, 0, []), some (.iconst 0, 1, 0, 0, []), some (.istore_n 2, 1, 0, 0, []), some (.iload_n 2, 1, 0, 0, []), some (.iconst 4, 1, 0, 0, []), some (.if_icmp .ge 33, 3, 53, 0, []), none, none, some (.aload_n 0, 1, 0, 0, []), some (.getfield 38, 3, 12, 16, []), none, none, some (.aload_n 0, 1, 0, 0, []), some (.getfield 130, 3, 12, 17, []), none, none, some (.iload_n 2, 1, 0, 0, []), some (.iadd, 1, 0, 0, []), some (.iload_n 1, 1, 0, 0, []), some (.bipush 24, 2, 0, 0, []), none, some (.bipush 8, 2, 0, 0, []), none, some (.iload_n 2, 1, 0, 0, []), some (.imul, 1, 0, 0, []), some (.isub, 1, 0, 0, []), some (.ishr, 1, 0, 0, []), some (.sipush 255, 3, 0, 0, []), none, none, some (.iand, 1, 0, 0, []), some (.iastore, 1, 0, 0, []), some (.iinc 2 1, 3, 0, 0, []), none, none, some (.goto (-32), 3, 18, 0, []), none, none, some (.aload_n 0, 1, 0, 0, []), some (.dup, 1, 0, 0, []), some (.getfield 130, 3, 12, 17, []), none, none, some (.iconst 4, 1, 0, 0, []), some (.iadd, 1, 0, 0, []), some (.putfield 130, 3, 12, 17, []), none, none, some (.aload_n 0, 1, 0, 0, []), some (.getfield 130, 3, 12, 17, []), none, none, some (.ireturn, 1, 0, 0, [])]
def kX12_end : List (Option zi_I) := [some (.aload_n 0, 1, 0, 0, []), some (.iconst 0, 1, 0, 0, []), some (.putfield 99, 3, 12, 0, []), none, none, some (.iload_n 1, 1, 0, 0, []), some (.i2l, 1, 0, 0, []), some (.lconst 0, 1, 0, 0, []), some (.aload_n 0, 1, 0, 0, []), some (.getfield 130, 3, 12, 17, []), none, none, some (.i2l, 1, 0, 0, []), some (.invokestatic 113, 3, 2403, 3, []), none, none, some (.ifCond .ne 5, 3, 21, 0, []), none, none, some (.iconst 0, 1, 0, 0, []), some (.ireturn, 1, 0, 0, []), some (.aload_n 0, 1, 0, 0, []), some (.iload_n 1, 1, 0, 0, []), some (.putfield 130, 3, 12, 17, []), none, none, some (.iconst 1, 1, 0, 0, []), some (.ireturn, 1, 0, 0, [])]
def kX12_begins : List (Option zi_I) := [some (.aload_n 0, 1, 0, 0, []), some (.getfield 130, 3, 12, 17, []), none, none, some (.istore_n 2, 1, 0, 0, []), some (.aload_n 0, 1, 0, 0, []), some (.iconst 0, 1, 0, 0, []), some (.putfield 130, 3, 12, 17, []), none, none, some (.aload_n 0, 1, 0, 0, []), some (.iconst 0, 1, 0, 0, []), some (.putfield 133, 3, 12, 18, []), none, none, some (.aload_n 0, 1, 0, 0, []), some (.iconst 0, 1, 0, 0, []), some (.putfield 136, 3, 12, 20, []), none, none, some (.aload_n 0, 1, 0, 0, []), some (.iload_n 2, 1, 0, 0, []), some (.iload_n 1, 1, 0, 0, []), some (.invokestatic 139, 3, 9002, 0, []), none, none, some (.putfield 145, 3, 12, 19, []), none, none, some (.iload_n 2, 1, 0, 0, []), some (.ireturn, 1, 0, 0, [])]
def kX12_takes : List (Option zi_I) := [some (.aload_n 0, 1, 0, 0, []), some (.getfield 133, 3, 12, 18, []), none, none, some (.aload_n 0, 1, 0, 0, []), some (.getfield 145, 3, 12, 19, []), none, none, some (.if_icmp .ge 20, 3, 28, 0, []), none, none, some (.aload_n 0, 1, 0, 0, []), some (.getfield 38, 3, 12, 16, []), none, none, some (.aload_n 0, 1, 0, 0, []), some (.getfield 133, 3, 12, 18, []), none, none, some (.iaload, 1, 0, 0, []), some (.iload_n 1, 1, 0, 0, []), some (.if_icmp .ne 7, 3, 28, 0, []), none, none, some (.iconst 1, 1, 0, 0, []), some (.goto 4, 3, 29, 0, []), none, none, some (.iconst 0, 1, 0, 0, []), some (.istore_n 2, 1, 0, 0, []), some (.aload_n 0, 1, 0, 0, []), some (.dup, 1, 0, 0, []), some (.getfield 133, 3, 12, 18, []), none, none, some (.iload_n 2, 1, 0, 0, []), some (.invokestatic 148, 3, 2405, 1, []), none, none, some (.iadd, 1, 0, 0, []), some (.putfield 133, 3, 12, 18, []), none, none, some (.iload_n 2, 1, 0, 0, []), some (.ireturn, 1, 0, 0, [])]
def kX12_isDigit : List (Option zi_I) := [some (.aload_n 0, 1, 0, 0, []), some (.getfield 133, 3, 12, 18, []), none, none, some (.aload_n 0, 1, 0, 0, []), some (.getfield 145, 3, 12, 19, []), none, none, some (.if_icmp .ge 29, 3, 37, 0, []), none, none, some (.aload_n 0, 1, 0, 0, []), some (.getfield 38, 3, 12, 16, []), none, none, some (.aload_n 0, 1, 0, 0, []), some (.getfield 133, 3, 12, 18, []), none, none, some (.iaload, 1, 0, 0, []), some (.i2l, 1, 0, 0, []), some (.ldc2_w 152, 3, 48, 0, []), none, none, some (.ldc2_w 154, 3, 57, 0, []), none, none, some (.invokestatic 113, 3, 2403, 3, []), none, none, some (.ifCond .eq 7, 3, 37, 0, []), none, none, some (.iconst 1, 1, 0, 0, []), some (.goto 4, 3, 38, 0, []), none, none, some (.iconst 0, 1, 0, 0, []), some (.ireturn, 1, 0, 0, [])]
def kX12_among : List (Option zi_I) := [some (.iconst 0, 1, 0, 0, []), some (.istore_n 2, 1, 0, 0, []), some (.iload_n 2, 1, 0, 0, []), some (.aload_n 1, 1, 0, 0, []), some (.invokevirtual 156, 3, 3000, 0, []), none, none, some (.if_icmp .ge 39, 3, 46, 0, []), none, none, some (.aload_n 0, 1, 0, 0, []), some (.getfield 133, 3, 12, 18, []), none, none, some (.aload_n 0, 1, 0, 0, []), some (.getfield 145, 3, 12, 19, []), none, none, some (.if_icmp .ge 28, 3, 46, 0, []), none, none, some (.aload_n 1, 1, 0, 0, []), some (.iload_n 2, 1, 0, 0, []), some (.invokevirtual 162, 3, 3001, 1, []), none, none, some (.aload_n 0, 1, 0, 0, []), some (.getfield 38, 3, 12, 16, []), none, none, some (.aload_n 0, 1, 0, 0, []), some (.getfield 133, 3, 12, 18, []), none, none, some (.iaload, 1, 0, 0, []), some (.if_icmp .ne 5, 3, 40, 0, []), none, none, some (.iload_n 2, 1, 0, 0, []), some (.ireturn, 1, 0, 0, []), some (.iinc 2 1, 3, 0, 0, []), none, none, some (.goto (-41), 3, 2, 0, []), none, none, some (.iconst (-1), 1, 0, 0, []), some (.ireturn, 1, 0, 0, [])]
def kX12_takesOf : List (Option zi_I) := [some (.aload_n 0, 1, 0, 0, []), some (.aload_n 1, 1, 0, 0, []), some (.invokevirtual 166, 3, 2422, 1, []), none, none, some (.istore_n 2, 1, 0, 0, []), some (.aload_n 0, 1, 0, 0, []), some (.dup, 1, 0, 0, []), some (.getfield 133, 3, 12, 18, []), none, none, some (.iload_n 2, 1, 0, 0, []), some (.ifCond .lt 7, 3, 19, 0, []), none, none, some (.iconst 1, 1, 0, 0, []), some (.goto 4, 3, 20, 0, []), none, none, some (.iconst 0, 1, 0, 0, []), some (.invokestatic 148, 3, 2405, 1, []), none, none, some (.iadd, 1, 0, 0, []), some (.putfield 133, 3, 12, 18, []), none, none, some (.iload_n 2, 1, 0, 0, []), some (.ireturn, 1, 0, 0, [])]
def kX12_number : List (Option zi_I) := [some (.aload_n 0, 1, 0, 0, []), some (.invokevirtual 170, 3, 2421, 0, []), none, none, some (.ifCond .ne 5, 3, 9, 0, []), none, none, some (.iconst (-1), 1, 0, 0, []), some (.ireturn, 1, 0, 0, []), some (.iconst 0, 1, 0, 0, []), some (.istore_n 2, 1, 0, 0, []), some (.iconst 0, 1, 0, 0, []), some (.istore_n 3, 1, 0, 0, []), some (.iload_n 3, 1, 0, 0, []), some (.iload_n 1, 1, 0, 0, []), some (.if_icmp .ge 44, 3, 59, 0, []), none, none, some (.aload_n 0, 1, 0, 0, []), some (.invokevirtual 170, 3, 2421, 0, []), none, none, some (.ifCond .eq 37, 3, 59, 0, []), none, none, some (.bipush 10, 2, 0, 0, []), none, some (.iload_n 2, 1, 0, 0, []), some (.imul, 1, 0, 0, []), some (.aload_n 0, 1, 0, 0, []), some (.getfield 38, 3, 12, 16, []), none, none, some (.aload_n 0, 1, 0, 0, []), some (.getfield 133, 3, 12, 18, []), none, none, some (.iaload, 1, 0, 0, []), some (.iadd, 1, 0, 0, []), some (.bipush 48, 2, 0, 0, []), none, some (.isub, 1, 0, 0, []), some (.istore_n 2, 1, 0, 0, []), some (.aload_n 0, 1, 0, 0, []), some (.dup, 1, 0, 0, []), some (.getfield 133, 3, 12, 18, []), none, none, some (.iconst 1, 1, 0, 0, []), some (.iadd, 1, 0, 0, []), some (.putfield 133, 3, 12, 18, []), none, none, some (.iinc 3 1, 3, 0, 0, []), none, none, some (.goto (-43), 3, 13, 0, []), none, none, some (.iload_n 2, 1, 0, 0, []), some (.ireturn, 1, 0, 0, [])]
def kX12_signIn : List (Option zi_I) := [some (.aload_n 0, 1, 0, 0, []), some (.getfield 133, 3, 12, 18, []), none, none, some (.aload_n 0, 1, 0, 0, []), some (.getfield 145, 3, 12, 19, []), none, none, some (.if_icmp .ge 25, 3, 33, 0, []), none, none, some (.aload_n 0, 1, 0, 0, []), some (.getfield 38, 3, 12, 16, []), none, none, some (.aload_n 0, 1, 0, 0, []), some (.getfield 133, 3, 12, 18, []), none, none, some (.iaload, 1, 0, 0, []), some (.iload_n 1, 1, 0, 0, []), some (.isub, 1, 0, 0, []), some (.i2l, 1, 0, 0, []), some (.iload_n 2, 1, 0, 0, []), some (.i2l, 1, 0, 0, []), some (.iload_n 3, 1, 0, 0, []), some (.i2l, 1, 0, 0, []), some (.invokestatic 113, 3, 2403, 3, []), none, none, some (.ifCond .ne 5, 3, 35, 0, []), none, none, some (.iconst (-1), 1, 0, 0, []), some (.ireturn, 1, 0, 0, []), some (.aload_n 0, 1, 0, 0, []), some (.dup, 1, 0, 0, []), some (.getfield 133, 3, 12, 18, []), none, none, some (.iconst 1, 1, 0, 0, []), some (.iadd, 1, 0, 0, []), some (.putfield 133, 3, 12, 18, []), none, none, some (.aload_n 0, 1, 0, 0, []), some (.getfield 38, 3, 12, 16, []), none, none, some (.aload_n 0, 1, 0, 0, []), some (.getfield 133, 3, 12, 18, []), none, none, some (.iconst 1, 1, 0, 0, []), some (.isub, 1, 0, 0, []), some (.iaload, 1, 0, 0, []), some (.iload_n 1, 1, 0, 0, []), some (.isub, 1, 0, 0, []), some (.ireturn, 1, 0, 0, [])]
def kX12_faultOf : List (Option zi_I) := [some (.iload_n 3, 1, 0, 0, []), some (.ifCond .eq 18, 3, 19, 0, []), none, none, some (.aload_n 0, 1, 0, 0, []), some (.getfield 133, 3, 12, 18, []), none, none, some (.aload_n 0, 1, 0, 0, []), some (.getfield 145, 3, 12, 19, []), none, none, some (.if_icmp .ne 7, 3, 19, 0, []), none, none, some (.iconst 1, 1, 0, 0, []), some (.goto 4, 3, 20, 0, []), none, none, some (.iconst 0, 1, 0, 0, []), some (.istore 4, 2, 0, 0, []), none, some (.iload_n 1, 1, 0, 0, []), some (.iload_n 2, 1, 0, 0, []), some (.if_icmp .le 20, 3, 44, 0, []), none, none, some (.iload 4, 2, 0, 0, []), none, some (.ifCond .ne 11, 3, 40, 0, []), none, none, some (.aload_n 0, 1, 0, 0, []), some (.getfield 133, 3, 12, 18, []), none, none, some (.iload_n 2, 1, 0, 0, []), some (.if_icmp .lt 7, 3, 44, 0, []), none, none, some (.iconst (-1), 1, 0, 0, []), some (.iload_n 2, 1, 0, 0, []), some (.isub, 1, 0, 0, []), some (.ireturn, 1, 0, 0, []), some (.iload 4, 2, 0, 0, []), none, some (.ifCond .eq 7, 3, 53, 0, []), none, none, some (.iconst 0, 1, 0, 0, []), some (.goto 9, 3, 59, 0, []), none, none, some (.iconst (-1), 1, 0, 0, []), some (.aload_n 0, 1, 0, 0, []), some (.getfield 133, 3, 12, 18, []), none, none, some (.isub, 1, 0, 0, []), some (.ireturn, 1, 0, 0, [])]
def kX12_readsLock : List (Option zi_I) := [some (.aload_n 0, 1, 0, 0, []), some (.getfield 110, 3, 12, 3, []), none, none, some (.aload_n 0, 1, 0, 0, []), some (.getfield 174, 3, 12, 22, []), none, none, some (.iadd, 1, 0, 0, []), some (.bipush 8, 2, 0, 0, []), none, some (.if_icmp .ne 5, 3, 16, 0, []), none, none, some (.iconst 0, 1, 0, 0, []), some (.ireturn, 1, 0, 0, []), some (.iconst 5, 1, 0, 0, []), some (.aload_n 0, 1, 0, 0, []), some (.getfield 174, 3, 12, 22, []), none, none, some (.imul, 1, 0, 0, []), some (.istore_n 1, 1, 0, 0, []), some (.iconst 0, 1, 0, 0, []), some (.istore_n 2, 1, 0, 0, []), some (.iload_n 2, 1, 0, 0, []), some (.iconst 4, 1, 0, 0, []), some (.if_icmp .ge 56, 3, 83, 0, []), none, none, some (.aload_n 0, 1, 0, 0, []), some (.getfield 41, 3, 12, 21, []), none, none, some (.iload_n 1, 1, 0, 0, []), some (.iload_n 2, 1, 0, 0, []), some (.iadd, 1, 0, 0, []), some (.aload_n 0, 1, 0, 0, []), some (.bipush 97, 2, 0, 0, []), none, some (.iload_n 2, 1, 0, 0, []), some (.ifCond .ne 7, 3, 48, 0, []), none, none, some (.iconst 0, 1, 0, 0, []), some (.goto 13, 3, 58, 0, []), none, none, some (.aload_n 0, 1, 0, 0, []), some (.getfield 41, 3, 12, 21, []), none, none, some (.iload_n 1, 1, 0, 0, []), some (.iload_n 2, 1, 0, 0, []), some (.iadd, 1, 0, 0, []), some (.iconst 1, 1, 0, 0, []), some (.isub, 1, 0, 0, []), some (.iaload, 1, 0, 0, []), some (.bipush 25, 2, 0, 0, []), none, some (.invokevirtual 177, 3, 2425, 3, []), none, none, some (.iastore, 1, 0, 0, []), some (.aload_n 0, 1, 0, 0, []), some (.getfield 41, 3, 12, 21, []), none, none, some (.iload_n 1, 1, 0, 0, []), some (.iload_n 2, 1, 0, 0, []), some (.iadd, 1, 0, 0, []), some (.iaload, 1, 0, 0, []), some (.ifCond .ge 5, 3, 77, 0, []), none, none, some (.iconst 0, 1, 0, 0, []), some (.ireturn, 1, 0, 0, []), some (.iinc 2 1, 3, 0, 0, []), none, none, some (.goto (-55), 3, 25, 0, []), none, none, some (.aload_n 0, 1, 0, 0, []), some (.getfield 41, 3, 12, 21, []), none, none, some (.iload_n 1, 1, 0, 0, []), some (.iconst 4, 1, 0, 0, []), some (.iadd, 1, 0, 0, []), some (.aload_n 0, 1, 0, 0, []), some (.bipush 48, 2, 0, 0, []), none, some (.iconst 1, 1, 0, 0, []), some (.bipush 9, 2, 0, 0, []), none, some (.invokevirtual 177, 3, 2425, 3, []), none, none, some (.iastore, 1, 0, 0, []), some (.aload_n 0, 1, 0, 0, []), some (.dup, 1, 0, 0, []), some (.getfield 174, 3, 12, 22, []), none, none, some (.iconst 1, 1, 0, 0, []), some (.iadd, 1, 0, 0, []), some (.putfield 174, 3, 12, 22, []), none, none, some (.aload_n 0, 1, 0, 0, []), some (.getfield 41, 3, 12, 21, []), none, none, some (.iload_n 1, 1, 0, 0, []), some (.iconst 4, 1, 0, 0, []), some (.iadd, 1, 0, 0, []), some (.iaload, 1, 0, 0, []), some (.ifCond .le 7, 3, 125, 0, []), none, none, some (.iconst 1, 1, 0, 0, []), some (.goto 4, 3, 126, 0, []), none, none, some (.iconst 0, 1, 0, 0, []), some (.ireturn, 1, 0, 0, [])]
def kX12_readsSinger : List (Option zi_I) := [some (.aload_n 0, 1, 0, 0, []), some (.getfield 117, 3, 12, 4, []), none, none, some (.aload_n 0, 1, 0, 0, []), some (.getfield 174, 3, 12, 22, []), none, none, some (.iadd, 1, 0, 0, []), some (.bipush 8, 2, 0, 0, []), none, some (.if_icmp .ne 5, 3, 16, 0, []), none, none, some (.iconst 0, 1, 0, 0, []), some (.ireturn, 1, 0, 0, []), some (.iconst 4, 1, 0, 0, []), some (.aload_n 0, 1, 0, 0, []), some (.getfield 174, 3, 12, 22, []), none, none, some (.imul, 1, 0, 0, []), some (.istore_n 1, 1, 0, 0, []), some (.aload_n 0, 1, 0, 0, []), some (.getfield 41, 3, 12, 21, []), none, none, some (.iload_n 1, 1, 0, 0, []), some (.aload_n 0, 1, 0, 0, []), some (.bipush 97, 2, 0, 0, []), none, some (.iconst 0, 1, 0, 0, []), some (.bipush 25, 2, 0, 0, []), none, some (.invokevirtual 177, 3, 2425, 3, []), none, none, some (.iastore, 1, 0, 0, []), some (.aload_n 0, 1, 0, 0, []), some (.getfield 41, 3, 12, 21, []), none, none, some (.iload_n 1, 1, 0, 0, []), some (.iaload, 1, 0, 0, []), some (.ifCond .ge 5, 3, 49, 0, []), none, none, some (.iconst 0, 1, 0, 0, []), some (.ireturn, 1, 0, 0, []), some (.aload_n 0, 1, 0, 0, []), some (.getfield 41, 3, 12, 21, []), none, none, some (.iload_n 1, 1, 0, 0, []), some (.iconst 1, 1, 0, 0, []), some (.iadd, 1, 0, 0, []), some (.aload_n 0, 1, 0, 0, []), some (.bipush 97, 2, 0, 0, []), none, some (.aload_n 0, 1, 0, 0, []), some (.getfield 41, 3, 12, 21, []), none, none, some (.iload_n 1, 1, 0, 0, []), some (.iaload, 1, 0, 0, []), some (.bipush 25, 2, 0, 0, []), none, some (.invokevirtual 177, 3, 2425, 3, []), none, none, some (.iastore, 1, 0, 0, []), some (.aload_n 0, 1, 0, 0, []), some (.getfield 41, 3, 12, 21, []), none, none, some (.iload_n 1, 1, 0, 0, []), some (.iconst 2, 1, 0, 0, []), some (.iadd, 1, 0, 0, []), some (.aload_n 0, 1, 0, 0, []), some (.getfield 41, 3, 12, 21, []), none, none, some (.iload_n 1, 1, 0, 0, []), some (.iconst 1, 1, 0, 0, []), some (.iadd, 1, 0, 0, []), some (.iaload, 1, 0, 0, []), some (.ifCond .ge 7, 3, 93, 0, []), none, none, some (.iconst (-1), 1, 0, 0, []), some (.goto 14, 3, 104, 0, []), none, none, some (.aload_n 0, 1, 0, 0, []), some (.bipush 48, 2, 0, 0, []), none, some (.iconst 0, 1, 0, 0, []), some (.aload_n 0, 1, 0, 0, []), some (.getfield 110, 3, 12, 3, []), none, none, some (.invokevirtual 177, 3, 2425, 3, []), none, none, some (.iastore, 1, 0, 0, []), some (.aload_n 0, 1, 0, 0, []), some (.getfield 41, 3, 12, 21, []), none, none, some (.iload_n 1, 1, 0, 0, []), some (.iconst 2, 1, 0, 0, []), some (.iadd, 1, 0, 0, []), some (.iaload, 1, 0, 0, []), some (.ifCond .lt 12, 3, 125, 0, []), none, none, some (.aload_n 0, 1, 0, 0, []), some (.bipush 58, 2, 0, 0, []), none, some (.invokevirtual 181, 3, 2420, 1, []), none, none, some (.ifCond .ne 5, 3, 127, 0, []), none, none, some (.iconst 0, 1, 0, 0, []), some (.ireturn, 1, 0, 0, []), some (.aload_n 0, 1, 0, 0, []), some (.getfield 41, 3, 12, 21, []), none, none, some (.iload_n 1, 1, 0, 0, []), some (.iconst 3, 1, 0, 0, []), some (.iadd, 1, 0, 0, []), some (.aload_n 0, 1, 0, 0, []), some (.iconst 2, 1, 0, 0, []), some (.invokevirtual 185, 3, 2424, 1, []), none, none, some (.iastore, 1, 0, 0, []), some (.aload_n 0, 1, 0, 0, []), some (.dup, 1, 0, 0, []), some (.getfield 174, 3, 12, 22, []), none, none, some (.iconst 1, 1, 0, 0, []), some (.iadd, 1, 0, 0, []), some (.putfield 174, 3, 12, 22, []), none, none, some (.aload_n 0, 1, 0, 0, []), some (.getfield 41, 3, 12, 21, []), none, none, some (.iload_n 1, 1, 0, 0, []), some (.iconst 3, 1, 0, 0, []), some (.iadd, 1, 0, 0, []), some (.iaload, 1, 0, 0, []), some (.ifCond .lt 7, 3, 165, 0, []), none, none, some (.iconst 1, 1, 0, 0, []), some (.goto 4, 3, 166, 0, []), none, none, some (.iconst 0, 1, 0, 0, []), some (.ireturn, 1, 0, 0, [])]
def kX12_readsBarge : List (Option zi_I) := [some (.aload_n 0, 1, 0, 0, []), some (.getfield 120, 3, 12, 5, []), none, none, some (.aload_n 0, 1, 0, 0, []), some (.getfield 174, 3, 12, 22, []), none, none, some (.iadd, 1, 0, 0, []), some (.iconst 4, 1, 0, 0, []), some (.if_icmp .ne 5, 3, 15, 0, []), none, none, some (.iconst 0, 1, 0, 0, []), some (.ireturn, 1, 0, 0, []), some (.iconst 2, 1, 0, 0, []), some (.aload_n 0, 1, 0, 0, []), some (.getfield 174, 3, 12, 22, []), none, none, some (.imul, 1, 0, 0, []), some (.istore_n 1, 1, 0, 0, []), some (.aload_n 0, 1, 0, 0, []), some (.getfield 41, 3, 12, 21, []), none, none, some (.iload_n 1, 1, 0, 0, []), some (.aload_n 0, 1, 0, 0, []), some (.bipush 48, 2, 0, 0, []), none, some (.iconst 0, 1, 0, 0, []), some (.aload_n 0, 1, 0, 0, []), some (.getfield 110, 3, 12, 3, []), none, none, some (.invokevirtual 177, 3, 2425, 3, []), none, none, some (.iastore, 1, 0, 0, []), some (.aload_n 0, 1, 0, 0, []), some (.getfield 41, 3, 12, 21, []), none, none, some (.iload_n 1, 1, 0, 0, []), some (.iconst 1, 1, 0, 0, []), some (.iadd, 1, 0, 0, []), some (.aload_n 0, 1, 0, 0, []), some (.getfield 41, 3, 12, 21, []), none, none, some (.iload_n 1, 1, 0, 0, []), some (.iaload, 1, 0, 0, []), some (.ifCond .ge 7, 3, 59, 0, []), none, none, some (.iconst (-1), 1, 0, 0, []), some (.goto 8, 3, 64, 0, []), none, none, some (.aload_n 0, 1, 0, 0, []), some (.iconst 1, 1, 0, 0, []), some (.invokevirtual 185, 3, 2424, 1, []), none, none, some (.iastore, 1, 0, 0, []), some (.aload_n 0, 1, 0, 0, []), some (.dup, 1, 0, 0, []), some (.getfield 174, 3, 12, 22, []), none, none, some (.iconst 1, 1, 0, 0, []), some (.iadd, 1, 0, 0, []), some (.putfield 174, 3, 12, 22, []), none, none, some (.aload_n 0, 1, 0, 0, []), some (.getfield 41, 3, 12, 21, []), none, none, some (.iload_n 1, 1, 0, 0, []), some (.iconst 1, 1, 0, 0, []), some (.iadd, 1, 0, 0, []), some (.iaload, 1, 0, 0, []), some (.ifCond .lt 7, 3, 90, 0, []), none, none, some (.iconst 1, 1, 0, 0, []), some (.goto 4, 3, 91, 0, []), none, none, some (.iconst 0, 1, 0, 0, []), some (.ireturn, 1, 0, 0, [])]
def kX12_readsLines : List (Option zi_I) := [some (.aload_n 0, 1, 0, 0, []), some (.iload_n 2, 1, 0, 0, []), some (.invokevirtual 189, 3, 2419, 1, []), none, none, some (.istore_n 3, 1, 0, 0, []), some (.aload_n 0, 1, 0, 0, []), some (.iconst 0, 1, 0, 0, []), some (.putfield 174, 3, 12, 22, []), none, none, some (.iconst 1, 1, 0, 0, []), some (.istore 4, 2, 0, 0, []), none, some (.iload_n 3, 1, 0, 0, []), some (.ifCond .le 7, 3, 22, 0, []), none, none, some (.iconst 1, 1, 0, 0, []), some (.goto 4, 3, 23, 0, []), none, none, some (.iconst 0, 1, 0, 0, []), some (.istore 5, 2, 0, 0, []), none, some (.iload 5, 2, 0, 0, []), none, some (.ifCond .eq 56, 3, 83, 0, []), none, none, some (.iload_n 1, 1, 0, 0, []), some (.ifCond .ne 10, 3, 41, 0, []), none, none, some (.aload_n 0, 1, 0, 0, []), some (.invokevirtual 192, 3, 2427, 0, []), none, none, some (.goto 19, 3, 57, 0, []), none, none, some (.iload_n 1, 1, 0, 0, []), some (.iconst 1, 1, 0, 0, []), some (.if_icmp .ne 10, 3, 53, 0, []), none, none, some (.aload_n 0, 1, 0, 0, []), some (.invokevirtual 195, 3, 2428, 0, []), none, none, some (.goto 7, 3, 57, 0, []), none, none, some (.aload_n 0, 1, 0, 0, []), some (.invokevirtual 198, 3, 2429, 0, []), none, none, some (.istore 4, 2, 0, 0, []), none, some (.iload 4, 2, 0, 0, []), none, some (.ifCond .eq 16, 3, 77, 0, []), none, none, some (.aload_n 0, 1, 0, 0, []), some (.bipush 59, 2, 0, 0, []), none, some (.invokevirtual 181, 3, 2420, 1, []), none, none, some (.ifCond .eq 7, 3, 77, 0, []), none, none, some (.iconst 1, 1, 0, 0, []), some (.goto 4, 3, 78, 0, []), none, none, some (.iconst 0, 1, 0, 0, []), some (.istore 5, 2, 0, 0, []), none, some (.goto (-55), 3, 25, 0, []), none, none, some (.aload_n 0, 1, 0, 0, []), some (.iload_n 3, 1, 0, 0, []), some (.iload_n 2, 1, 0, 0, []), some (.iload 4, 2, 0, 0, []), none, some (.invokevirtual 201, 3, 2426, 3, []), none, none, some (.ireturn, 1, 0, 0, [])]
def kX12_came : List (Option zi_I) := [some (.aload_n 0, 1, 0, 0, []), some (.getfield 174, 3, 12, 22, []), none, none, some (.ifCond .le 18, 3, 22, 0, []), none, none, some (.aload_n 0, 1, 0, 0, []), some (.iconst 0, 1, 0, 0, []), some (.putfield 205, 3, 12, 31, []), none, none, some (.aload_n 0, 1, 0, 0, []), some (.dup, 1, 0, 0, []), some (.getfield 208, 3, 12, 7, []), none, none, some (.iconst 1, 1, 0, 0, []), some (.iadd, 1, 0, 0, []), some (.putfield 208, 3, 12, 7, []), none, none, some (.aload_n 0, 1, 0, 0, []), some (.getfield 174, 3, 12, 22, []), none, none, some (.ireturn, 1, 0, 0, [])]
def kX12_locks : List (Option zi_I) := [some (.aload_n 0, 1, 0, 0, []), some (.iconst 0, 1, 0, 0, []), some (.putfield 99, 3, 12, 0, []), none, none, some (.aload_n 0, 1, 0, 0, []), some (.iconst 0, 1, 0, 0, []), some (.bipush 47, 2, 0, 0, []), none, some (.invokevirtual 211, 3, 2430, 2, []), none, none, some (.istore_n 1, 1, 0, 0, []), some (.iload_n 1, 1, 0, 0, []), some (.ifCond .ge 5, 3, 19, 0, []), none, none, some (.iload_n 1, 1, 0, 0, []), some (.ireturn, 1, 0, 0, []), some (.iconst 0, 1, 0, 0, []), some (.istore_n 2, 1, 0, 0, []), some (.iload_n 2, 1, 0, 0, []), some (.aload_n 0, 1, 0, 0, []), some (.getfield 174, 3, 12, 22, []), none, none, some (.if_icmp .ge 84, 3, 110, 0, []), none, none, some (.iconst 0, 1, 0, 0, []), some (.istore_n 3, 1, 0, 0, []), some (.iload_n 3, 1, 0, 0, []), some (.iconst 4, 1, 0, 0, []), some (.if_icmp .ge 32, 3, 65, 0, []), none, none, some (.aload_n 0, 1, 0, 0, []), some (.getfield 13, 3, 12, 8, []), none, none, some (.iconst 4, 1, 0, 0, []), some (.aload_n 0, 1, 0, 0, []), some (.getfield 110, 3, 12, 3, []), none, none, some (.imul, 1, 0, 0, []), some (.iload_n 3, 1, 0, 0, []), some (.iadd, 1, 0, 0, []), some (.aload_n 0, 1, 0, 0, []), some (.getfield 41, 3, 12, 21, []), none, none, some (.iconst 5, 1, 0, 0, []), some (.iload_n 2, 1, 0, 0, []), some (.imul, 1, 0, 0, []), some (.iload_n 3, 1, 0, 0, []), some (.iadd, 1, 0, 0, []), some (.iaload, 1, 0, 0, []), some (.iastore, 1, 0, 0, []), some (.iinc 3 1, 3, 0, 0, []), none, none, some (.goto (-31), 3, 31, 0, []), none, none, some (.aload_n 0, 1, 0, 0, []), some (.getfield 17, 3, 12, 9, []), none, none, some (.aload_n 0, 1, 0, 0, []), some (.getfield 110, 3, 12, 3, []), none, none, some (.aload_n 0, 1, 0, 0, []), some (.getfield 41, 3, 12, 21, []), none, none, some (.iconst 5, 1, 0, 0, []), some (.iload_n 2, 1, 0, 0, []), some (.imul, 1, 0, 0, []), some (.iconst 4, 1, 0, 0, []), some (.iadd, 1, 0, 0, []), some (.iaload, 1, 0, 0, []), some (.iastore, 1, 0, 0, []), some (.aload_n 0, 1, 0, 0, []), some (.getfield 32, 3, 12, 14, []), none, none, some (.aload_n 0, 1, 0, 0, []), some (.getfield 110, 3, 12, 3, []), none, none, some (.iconst 0, 1, 0, 0, []), some (.iastore, 1, 0, 0, []), some (.aload_n 0, 1, 0, 0, []), some (.dup, 1, 0, 0, []), some (.getfield 110, 3, 12, 3, []), none, none, some (.iconst 1, 1, 0, 0, []), some (.iadd, 1, 0, 0, []), some (.putfield 110, 3, 12, 3, []), none, none, some (.iinc 2 1, 3, 0, 0, []), none, none, some (.goto (-86), 3, 21, 0, []), none, none, some (.aload_n 0, 1, 0, 0, []), some (.invokevirtual 214, 3, 2431, 0, []), none, none, some (.ireturn, 1, 0, 0, [])]
def kX12_singers : List (Option zi_I) := [some (.aload_n 0, 1, 0, 0, []), some (.iconst 0, 1, 0, 0, []), some (.putfield 99, 3, 12, 0, []), none, none, some (.aload_n 0, 1, 0, 0, []), some (.iconst 1, 1, 0, 0, []), some (.bipush 63, 2, 0, 0, []), none, some (.invokevirtual 211, 3, 2430, 2, []), none, none, some (.istore_n 1, 1, 0, 0, []), some (.iload_n 1, 1, 0, 0, []), some (.ifCond .ge 5, 3, 19, 0, []), none, none, some (.iload_n 1, 1, 0, 0, []), some (.ireturn, 1, 0, 0, []), some (.iconst 0, 1, 0, 0, []), some (.istore_n 2, 1, 0, 0, []), some (.iload_n 2, 1, 0, 0, []), some (.aload_n 0, 1, 0, 0, []), some (.getfield 174, 3, 12, 22, []), none, none, some (.if_icmp .ge 134, 3, 160, 0, []), none, none, some (.aload_n 0, 1, 0, 0, []), some (.getfield 20, 3, 12, 10, []), none, none, some (.aload_n 0, 1, 0, 0, []), some (.getfield 117, 3, 12, 4, []), none, none, some (.aload_n 0, 1, 0, 0, []), some (.getfield 41, 3, 12, 21, []), none, none, some (.iconst 4, 1, 0, 0, []), some (.iload_n 2, 1, 0, 0, []), some (.imul, 1, 0, 0, []), some (.iaload, 1, 0, 0, []), some (.iastore, 1, 0, 0, []), some (.aload_n 0, 1, 0, 0, []), some (.getfield 23, 3, 12, 11, []), none, none, some (.aload_n 0, 1, 0, 0, []), some (.getfield 117, 3, 12, 4, []), none, none, some (.aload_n 0, 1, 0, 0, []), some (.getfield 41, 3, 12, 21, []), none, none, some (.iconst 4, 1, 0, 0, []), some (.iload_n 2, 1, 0, 0, []), some (.imul, 1, 0, 0, []), some (.iconst 1, 1, 0, 0, []), some (.iadd, 1, 0, 0, []), some (.iaload, 1, 0, 0, []), some (.iastore, 1, 0, 0, []), some (.aload_n 0, 1, 0, 0, []), some (.getfield 26, 3, 12, 12, []), none, none, some (.aload_n 0, 1, 0, 0, []), some (.getfield 117, 3, 12, 4, []), none, none, some (.aload_n 0, 1, 0, 0, []), some (.getfield 41, 3, 12, 21, []), none, none, some (.iconst 4, 1, 0, 0, []), some (.iload_n 2, 1, 0, 0, []), some (.imul, 1, 0, 0, []), some (.iconst 3, 1, 0, 0, []), some (.iadd, 1, 0, 0, []), some (.iaload, 1, 0, 0, []), some (.iastore, 1, 0, 0, []), some (.aload_n 0, 1, 0, 0, []), some (.getfield 32, 3, 12, 14, []), none, none, some (.bipush 10, 2, 0, 0, []), none, some (.iconst 3, 1, 0, 0, []), some (.aload_n 0, 1, 0, 0, []), some (.getfield 117, 3, 12, 4, []), none, none, some (.imul, 1, 0, 0, []), some (.iadd, 1, 0, 0, []), some (.iconst 0, 1, 0, 0, []), some (.iadd, 1, 0, 0, []), some (.aload_n 0, 1, 0, 0, []), some (.getfield 41, 3, 12, 21, []), none, none, some (.iconst 4, 1, 0, 0, []), some (.iload_n 2, 1, 0, 0, []), some (.imul, 1, 0, 0, []), some (.iconst 2, 1, 0, 0, []), some (.iadd, 1, 0, 0, []), some (.iaload, 1, 0, 0, []), some (.iastore, 1, 0, 0, []), some (.aload_n 0, 1, 0, 0, []), some (.getfield 32, 3, 12, 14, []), none, none, some (.bipush 10, 2, 0, 0, []), none, some (.iconst 3, 1, 0, 0, []), some (.aload_n 0, 1, 0, 0, []), some (.getfield 117, 3, 12, 4, []), none, none, some (.imul, 1, 0, 0, []), some (.iadd, 1, 0, 0, []), some (.iconst 1, 1, 0, 0, []), some (.iadd, 1, 0, 0, []), some (.iconst (-1), 1, 0, 0, []), some (.iastore, 1, 0, 0, []), some (.aload_n 0, 1, 0, 0, []), some (.getfield 32, 3, 12, 14, []), none, none, some (.bipush 10, 2, 0, 0, []), none, some (.iconst 3, 1, 0, 0, []), some (.aload_n 0, 1, 0, 0, []), some (.getfield 117, 3, 12, 4, []), none, none, some (.imul, 1, 0, 0, []), some (.iadd, 1, 0, 0, []), some (.iconst 2, 1, 0, 0, []), some (.iadd, 1, 0, 0, []), some (.iconst 0, 1, 0, 0, []), some (.iastore, 1, 0, 0, []), some (.aload_n 0, 1, 0, 0, []), some (.dup, 1, 0, 0, []), some (.getfield 117, 3, 12, 4, []), none, none, some (.iconst 1, 1, 0, 0, []), some (.iadd, 1, 0, 0, []), some (.putfield 117, 3, 12, 4, []), none, none, some (.iinc 2 1, 3, 0, 0, []), none, none, some (.goto (-136), 3, 21, 0, []), none, none, some (.aload_n 0, 1, 0, 0, []), some (.invokevirtual 214, 3, 2431, 0, []), none, none, some (.ireturn, 1, 0, 0, [])]
def kX12_barges : List (Option zi_I) := [some (.aload_n 0, 1, 0, 0, []), some (.iconst 0, 1, 0, 0, []), some (.putfield 99, 3, 12, 0, []), none, none, some (.aload_n 0, 1, 0, 0, []), some (.iconst 2, 1, 0, 0, []), some (.bipush 11, 2, 0, 0, []), none, some (.invokevirtual 211, 3, 2430, 2, []), none, none, some (.istore_n 1, 1, 0, 0, []), some (.iload_n 1, 1, 0, 0, []), some (.ifCond .ge 5, 3, 19, 0, []), none, none, some (.iload_n 1, 1, 0, 0, []), some (.ireturn, 1, 0, 0, []), some (.iconst 0, 1, 0, 0, []), some (.istore_n 2, 1, 0, 0, []), some (.iload_n 2, 1, 0, 0, []), some (.aload_n 0, 1, 0, 0, []), some (.getfield 174, 3, 12, 22, []), none, none, some (.if_icmp .ge 80, 3, 106, 0, []), none, none, some (.aload_n 0, 1, 0, 0, []), some (.getfield 32, 3, 12, 14, []), none, none, some (.bipush 34, 2, 0, 0, []), none, some (.iconst 2, 1, 0, 0, []), some (.aload_n 0, 1, 0, 0, []), some (.getfield 120, 3, 12, 5, []), none, none, some (.imul, 1, 0, 0, []), some (.iadd, 1, 0, 0, []), some (.iconst 0, 1, 0, 0, []), some (.iadd, 1, 0, 0, []), some (.aload_n 0, 1, 0, 0, []), some (.getfield 41, 3, 12, 21, []), none, none, some (.iconst 2, 1, 0, 0, []), some (.iload_n 2, 1, 0, 0, []), some (.imul, 1, 0, 0, []), some (.iaload, 1, 0, 0, []), some (.iastore, 1, 0, 0, []), some (.aload_n 0, 1, 0, 0, []), some (.getfield 32, 3, 12, 14, []), none, none, some (.bipush 34, 2, 0, 0, []), none, some (.iconst 2, 1, 0, 0, []), some (.aload_n 0, 1, 0, 0, []), some (.getfield 120, 3, 12, 5, []), none, none, some (.imul, 1, 0, 0, []), some (.iadd, 1, 0, 0, []), some (.iconst 1, 1, 0, 0, []), some (.iadd, 1, 0, 0, []), some (.bipush 100, 2, 0, 0, []), none, some (.iastore, 1, 0, 0, []), some (.aload_n 0, 1, 0, 0, []), some (.getfield 29, 3, 12, 13, []), none, none, some (.aload_n 0, 1, 0, 0, []), some (.getfield 120, 3, 12, 5, []), none, none, some (.aload_n 0, 1, 0, 0, []), some (.getfield 41, 3, 12, 21, []), none, none, some (.iconst 2, 1, 0, 0, []), some (.iload_n 2, 1, 0, 0, []), some (.imul, 1, 0, 0, []), some (.iconst 1, 1, 0, 0, []), some (.iadd, 1, 0, 0, []), some (.iaload, 1, 0, 0, []), some (.iastore, 1, 0, 0, []), some (.aload_n 0, 1, 0, 0, []), some (.dup, 1, 0, 0, []), some (.getfield 120, 3, 12, 5, []), none, none, some (.iconst 1, 1, 0, 0, []), some (.iadd, 1, 0, 0, []), some (.putfield 120, 3, 12, 5, []), none, none, some (.iinc 2 1, 3, 0, 0, []), none, none, some (.goto (-82), 3, 21, 0, []), none, none, some (.aload_n 0, 1, 0, 0, []), some (.invokevirtual 214, 3, 2431, 0, []), none, none, some (.ireturn, 1, 0, 0, [])]
def kX12_codes : List (Option zi_I) := [some (.aload_n 0, 1, 0, 0, []), some (.getfield 47, 3, 12, 24, []), none, none, some (.aload_n 0, 1, 0, 0, []), some (.getfield 217, 3, 12, 26, []), none, none, some (.iload_n 1, 1, 0, 0, []), some (.iastore, 1, 0, 0, []), some (.aload_n 0, 1, 0, 0, []), some (.dup, 1, 0, 0, []), some (.getfield 217, 3, 12, 26, []), none, none, some (.iconst 1, 1, 0, 0, []), some (.iadd, 1, 0, 0, []), some (.putfield 217, 3, 12, 26, []), none, none, some (.return_, 1, 0, 0, [])]
def kX12_readsThing : List (Option zi_I) := [some (.aload_n 0, 1, 0, 0, []), some (.bipush 45, 2, 0, 0, []), none, some (.invokevirtual 181, 3, 2420, 1, []), none, none, some (.ifCond .eq 17, 3, 23, 0, []), none, none, some (.aload_n 0, 1, 0, 0, []), some (.invokevirtual 220, 3, 2436, 0, []), none, none, some (.istore_n 1, 1, 0, 0, []), some (.aload_n 0, 1, 0, 0, []), some (.sipush 3000, 3, 0, 0, []), none, none, some (.invokevirtual 223, 3, 2435, 1, []), none, none, some (.iload_n 1, 1, 0, 0, []), some (.ireturn, 1, 0, 0, []), some (.aload_n 0, 1, 0, 0, []), some (.invokevirtual 170, 3, 2421, 0, []), none, none, some (.ifCond .eq 14, 3, 41, 0, []), none, none, some (.aload_n 0, 1, 0, 0, []), some (.aload_n 0, 1, 0, 0, []), some (.iconst 3, 1, 0, 0, []), some (.invokevirtual 185, 3, 2424, 1, []), none, none, some (.invokevirtual 223, 3, 2435, 1, []), none, none, some (.iconst 1, 1, 0, 0, []), some (.ireturn, 1, 0, 0, []), some (.aload_n 0, 1, 0, 0, []), some (.ldc 227, 2, 0, 1, []), none, some (.invokevirtual 229, 3, 2423, 1, []), none, none, some (.istore_n 1, 1, 0, 0, []), some (.iload_n 1, 1, 0, 0, []), some (.ifCond .lt 14, 3, 63, 0, []), none, none, some (.aload_n 0, 1, 0, 0, []), some (.sipush 1000, 3, 0, 0, []), none, none, some (.iload_n 1, 1, 0, 0, []), some (.iadd, 1, 0, 0, []), some (.invokevirtual 223, 3, 2435, 1, []), none, none, some (.iconst 1, 1, 0, 0, []), some (.ireturn, 1, 0, 0, []), some (.aload_n 0, 1, 0, 0, []), some (.getfield 136, 3, 12, 20, []), none, none, some (.iconst 4, 1, 0, 0, []), some (.if_icmp .eq 12, 3, 80, 0, []), none, none, some (.aload_n 0, 1, 0, 0, []), some (.bipush 40, 2, 0, 0, []), none, some (.invokevirtual 181, 3, 2420, 1, []), none, none, some (.ifCond .ne 5, 3, 82, 0, []), none, none, some (.iconst 0, 1, 0, 0, []), some (.ireturn, 1, 0, 0, []), some (.aload_n 0, 1, 0, 0, []), some (.dup, 1, 0, 0, []), some (.getfield 136, 3, 12, 20, []), none, none, some (.iconst 1, 1, 0, 0, []), some (.iadd, 1, 0, 0, []), some (.putfield 136, 3, 12, 20, []), none, none, some (.aload_n 0, 1, 0, 0, []), some (.iconst 0, 1, 0, 0, []), some (.invokevirtual 232, 3, 2437, 1, []), none, none, some (.ifCond .eq 12, 3, 109, 0, []), none, none, some (.aload_n 0, 1, 0, 0, []), some (.bipush 41, 2, 0, 0, []), none, some (.invokevirtual 181, 3, 2420, 1, []), none, none, some (.ifCond .ne 5, 3, 111, 0, []), none, none, some (.iconst 0, 1, 0, 0, []), some (.ireturn, 1, 0, 0, []), some (.aload_n 0, 1, 0, 0, []), some (.dup, 1, 0, 0, []), some (.getfield 136, 3, 12, 20, []), none, none, some (.iconst 1, 1, 0, 0, []), some (.isub, 1, 0, 0, []), some (.putfield 136, 3, 12, 20, []), none, none, some (.iconst 1, 1, 0, 0, []), some (.ireturn, 1, 0, 0, [])]
def kX12_readsRank : List (Option zi_I) := [some (.iload_n 1, 1, 0, 0, []), some (.iconst 3, 1, 0, 0, []), some (.if_icmp .ne 8, 3, 10, 0, []), none, none, some (.aload_n 0, 1, 0, 0, []), some (.invokevirtual 220, 3, 2436, 0, []), none, none, some (.ireturn, 1, 0, 0, []), some (.aload_n 0, 1, 0, 0, []), some (.iload_n 1, 1, 0, 0, []), some (.iconst 1, 1, 0, 0, []), some (.iadd, 1, 0, 0, []), some (.invokevirtual 232, 3, 2437, 1, []), none, none, some (.ifCond .ne 5, 3, 22, 0, []), none, none, some (.iconst 0, 1, 0, 0, []), some (.ireturn, 1, 0, 0, []), some (.iconst 1, 1, 0, 0, []), some (.istore_n 2, 1, 0, 0, []), some (.iload_n 2, 1, 0, 0, []), some (.ifCond .eq 88, 3, 113, 0, []), none, none, some (.aload_n 0, 1, 0, 0, []), some (.iload_n 1, 1, 0, 0, []), some (.ifCond .ne 8, 3, 38, 0, []), none, none, some (.ldc 235, 2, 2, 1, []), none, some (.goto 15, 3, 50, 0, []), none, none, some (.iload_n 1, 1, 0, 0, []), some (.iconst 1, 1, 0, 0, []), some (.if_icmp .ne 8, 3, 48, 0, []), none, none, some (.ldc 237, 2, 4, 1, []), none, some (.goto 5, 3, 50, 0, []), none, none, some (.ldc 239, 2, 6, 1, []), none, some (.invokevirtual 229, 3, 2423, 1, []), none, none, some (.istore_n 3, 1, 0, 0, []), some (.iload_n 3, 1, 0, 0, []), some (.ifCond .ge 5, 3, 60, 0, []), none, none, some (.iconst 1, 1, 0, 0, []), some (.ireturn, 1, 0, 0, []), some (.aload_n 0, 1, 0, 0, []), some (.iload_n 1, 1, 0, 0, []), some (.iconst 1, 1, 0, 0, []), some (.iadd, 1, 0, 0, []), some (.invokevirtual 232, 3, 2437, 1, []), none, none, some (.ifCond .ne 5, 3, 72, 0, []), none, none, some (.iconst 0, 1, 0, 0, []), some (.ireturn, 1, 0, 0, []), some (.aload_n 0, 1, 0, 0, []), some (.sipush 2000, 3, 0, 0, []), none, none, some (.iload_n 3, 1, 0, 0, []), some (.iadd, 1, 0, 0, []), some (.iload_n 1, 1, 0, 0, []), some (.ifCond .ne 7, 3, 86, 0, []), none, none, some (.iconst 0, 1, 0, 0, []), some (.goto 13, 3, 96, 0, []), none, none, some (.iload_n 1, 1, 0, 0, []), some (.iconst 1, 1, 0, 0, []), some (.if_icmp .ne 7, 3, 95, 0, []), none, none, some (.iconst 3, 1, 0, 0, []), some (.goto 4, 3, 96, 0, []), none, none, some (.iconst 5, 1, 0, 0, []), some (.iadd, 1, 0, 0, []), some (.invokevirtual 223, 3, 2435, 1, []), none, none, some (.iload_n 1, 1, 0, 0, []), some (.ifCond .le 7, 3, 108, 0, []), none, none, some (.iconst 1, 1, 0, 0, []), some (.goto 4, 3, 109, 0, []), none, none, some (.iconst 0, 1, 0, 0, []), some (.istore_n 2, 1, 0, 0, []), some (.goto (-86), 3, 24, 0, []), none, none, some (.iconst 1, 1, 0, 0, []), some (.ireturn, 1, 0, 0, [])]
def kX12_rule : List (Option zi_I) := [some (.aload_n 0, 1, 0, 0, []), some (.iconst 0, 1, 0, 0, []), some (.putfield 99, 3, 12, 0, []), none, none, some (.aload_n 0, 1, 0, 0, []), some (.bipush 40, 2, 0, 0, []), none, some (.invokevirtual 189, 3, 2419, 1, []), none, none, some (.istore_n 1, 1, 0, 0, []), some (.aload_n 0, 1, 0, 0, []), some (.iconst 0, 1, 0, 0, []), some (.putfield 217, 3, 12, 26, []), none, none, some (.iload_n 1, 1, 0, 0, []), some (.ifCond .eq 11, 3, 29, 0, []), none, none, some (.aload_n 0, 1, 0, 0, []), some (.iconst 0, 1, 0, 0, []), some (.invokevirtual 232, 3, 2437, 1, []), none, none, some (.ifCond .eq 7, 3, 33, 0, []), none, none, some (.iconst 1, 1, 0, 0, []), some (.goto 4, 3, 34, 0, []), none, none, some (.iconst 0, 1, 0, 0, []), some (.istore_n 2, 1, 0, 0, []), some (.aload_n 0, 1, 0, 0, []), some (.iload_n 1, 1, 0, 0, []), some (.bipush 40, 2, 0, 0, []), none, some (.iload_n 2, 1, 0, 0, []), some (.invokevirtual 201, 3, 2426, 3, []), none, none, some (.istore_n 3, 1, 0, 0, []), some (.iload_n 3, 1, 0, 0, []), some (.ifCond .ge 5, 3, 50, 0, []), none, none, some (.iload_n 3, 1, 0, 0, []), some (.ireturn, 1, 0, 0, []), some (.aload_n 0, 1, 0, 0, []), some (.aload_n 0, 1, 0, 0, []), some (.getfield 217, 3, 12, 26, []), none, none, some (.putfield 241, 3, 12, 25, []), none, none, some (.iconst 0, 1, 0, 0, []), some (.istore 4, 2, 0, 0, []), none, some (.iload 4, 2, 0, 0, []), none, some (.aload_n 0, 1, 0, 0, []), some (.getfield 217, 3, 12, 26, []), none, none, some (.if_icmp .ge 23, 3, 90, 0, []), none, none, some (.aload_n 0, 1, 0, 0, []), some (.getfield 44, 3, 12, 23, []), none, none, some (.iload 4, 2, 0, 0, []), none, some (.aload_n 0, 1, 0, 0, []), some (.getfield 47, 3, 12, 24, []), none, none, some (.iload 4, 2, 0, 0, []), none, some (.iaload, 1, 0, 0, []), some (.iastore, 1, 0, 0, []), some (.iinc 4 1, 3, 0, 0, []), none, none, some (.goto (-26), 3, 61, 0, []), none, none, some (.iconst 0, 1, 0, 0, []), some (.ireturn, 1, 0, 0, [])]
def kX12_worked : List (Option zi_I) := [some (.iload_n 0, 1, 0, 0, []), some (.tableswitch 93 0 5 #[39, 53, 67, 81, 85, 89], 39, 94, 0, [(0, 40), (1, 54), (2, 68), (3, 82), (4, 86), (5, 90)]), none, none, none, none, none, none, none, none, none, none, none, none, none, none, none, none, none, none, none, none, none, none, none, none, none, none, none, none, none, none, none, none, none, none, none, none, none, none, some (.iload_n 1, 1, 0, 0, []), some (.iload_n 2, 1, 0, 0, []), some (.if_icmp .ge 7, 3, 49, 0, []), none, none, some (.iconst 1, 1, 0, 0, []), some (.goto 4, 3, 50, 0, []), none, none, some (.iconst 0, 1, 0, 0, []), some (.invokestatic 148, 3, 2405, 1, []), none, none, some (.ireturn, 1, 0, 0, []), some (.iload_n 1, 1, 0, 0, []), some (.iload_n 2, 1, 0, 0, []), some (.if_icmp .le 7, 3, 63, 0, []), none, none, some (.iconst 1, 1, 0, 0, []), some (.goto 4, 3, 64, 0, []), none, none, some (.iconst 0, 1, 0, 0, []), some (.invokestatic 148, 3, 2405, 1, []), none, none, some (.ireturn, 1, 0, 0, []), some (.iload_n 1, 1, 0, 0, []), some (.iload_n 2, 1, 0, 0, []), some (.if_icmp .ne 7, 3, 77, 0, []), none, none, some (.iconst 1, 1, 0, 0, []), some (.goto 4, 3, 78, 0, []), none, none, some (.iconst 0, 1, 0, 0, []), some (.invokestatic 148, 3, 2405, 1, []), none, none, some (.ireturn, 1, 0, 0, []), some (.iload_n 1, 1, 0, 0, []), some (.iload_n 2, 1, 0, 0, []), some (.iadd, 1, 0, 0, []), some (.ireturn, 1, 0, 0, []), some (.iload_n 1, 1, 0, 0, []), some (.iload_n 2, 1, 0, 0, []), some (.isub, 1, 0, 0, []), some (.ireturn, 1, 0, 0, []), some (.iload_n 1, 1, 0, 0, []), some (.iload_n 2, 1, 0, 0, []), some (.imul, 1, 0, 0, []), some (.ireturn, 1, 0, 0, []), some (.iload_n 2, 1, 0, 0, []), some (.ifCond .ne 7, 3, 102, 0, []), none, none, some (.iconst 0, 1, 0, 0, []), some (.goto 6, 3, 105, 0, []), none, none, some (.iload_n 1, 1, 0, 0, []), some (.iload_n 2, 1, 0, 0, []), some (.idiv, 1, 0, 0, []), some (.ireturn, 1, 0, 0, [])]
def kX12_ruled : List (Option zi_I) := [some (.iconst 0, 1, 0, 0, []), some (.istore_n 1, 1, 0, 0, []), some (.iconst 0, 1, 0, 0, []), some (.istore_n 2, 1, 0, 0, []), some (.iload_n 2, 1, 0, 0, []), some (.aload_n 0, 1, 0, 0, []), some (.getfield 241, 3, 12, 25, []), none, none, some (.if_icmp .ge 116, 3, 125, 0, []), none, none, some (.aload_n 0, 1, 0, 0, []), some (.getfield 44, 3, 12, 23, []), none, none, some (.iload_n 2, 1, 0, 0, []), some (.iaload, 1, 0, 0, []), some (.istore_n 3, 1, 0, 0, []), some (.iload_n 3, 1, 0, 0, []), some (.sipush 3000, 3, 0, 0, []), none, none, some (.if_icmp .ne 23, 3, 46, 0, []), none, none, some (.aload_n 0, 1, 0, 0, []), some (.getfield 50, 3, 12, 27, []), none, none, some (.iload_n 1, 1, 0, 0, []), some (.iconst 1, 1, 0, 0, []), some (.isub, 1, 0, 0, []), some (.aload_n 0, 1, 0, 0, []), some (.getfield 50, 3, 12, 27, []), none, none, some (.iload_n 1, 1, 0, 0, []), some (.iconst 1, 1, 0, 0, []), some (.isub, 1, 0, 0, []), some (.iaload, 1, 0, 0, []), some (.ineg, 1, 0, 0, []), some (.iastore, 1, 0, 0, []), some (.goto 76, 3, 119, 0, []), none, none, some (.iload_n 3, 1, 0, 0, []), some (.sipush 2000, 3, 0, 0, []), none, none, some (.if_icmp .lt 39, 3, 89, 0, []), none, none, some (.iinc 1 (-1), 3, 0, 0, []), none, none, some (.aload_n 0, 1, 0, 0, []), some (.getfield 50, 3, 12, 27, []), none, none, some (.iload_n 1, 1, 0, 0, []), some (.iconst 1, 1, 0, 0, []), some (.isub, 1, 0, 0, []), some (.iload_n 3, 1, 0, 0, []), some (.sipush 2000, 3, 0, 0, []), none, none, some (.isub, 1, 0, 0, []), some (.aload_n 0, 1, 0, 0, []), some (.getfield 50, 3, 12, 27, []), none, none, some (.iload_n 1, 1, 0, 0, []), some (.iconst 1, 1, 0, 0, []), some (.isub, 1, 0, 0, []), some (.iaload, 1, 0, 0, []), some (.aload_n 0, 1, 0, 0, []), some (.getfield 50, 3, 12, 27, []), none, none, some (.iload_n 1, 1, 0, 0, []), some (.iaload, 1, 0, 0, []), some (.invokestatic 244, 3, 2439, 3, []), none, none, some (.iastore, 1, 0, 0, []), some (.goto 33, 3, 119, 0, []), none, none, some (.aload_n 0, 1, 0, 0, []), some (.getfield 50, 3, 12, 27, []), none, none, some (.iload_n 1, 1, 0, 0, []), some (.iload_n 3, 1, 0, 0, []), some (.sipush 1000, 3, 0, 0, []), none, none, some (.if_icmp .lt 16, 3, 114, 0, []), none, none, some (.aload_n 0, 1, 0, 0, []), some (.getfield 53, 3, 12, 28, []), none, none, some (.iload_n 3, 1, 0, 0, []), some (.sipush 1000, 3, 0, 0, []), none, none, some (.isub, 1, 0, 0, []), some (.iaload, 1, 0, 0, []), some (.goto 4, 3, 115, 0, []), none, none, some (.iload_n 3, 1, 0, 0, []), some (.iastore, 1, 0, 0, []), some (.iinc 1 1, 3, 0, 0, []), none, none, some (.iinc 2 1, 3, 0, 0, []), none, none, some (.goto (-118), 3, 4, 0, []), none, none, some (.aload_n 0, 1, 0, 0, []), some (.getfield 241, 3, 12, 25, []), none, none, some (.ifCond .ne 39, 3, 168, 0, []), none, none, some (.iconst 2, 1, 0, 0, []), some (.aload_n 0, 1, 0, 0, []), some (.getfield 53, 3, 12, 28, []), none, none, some (.iconst 0, 1, 0, 0, []), some (.iaload, 1, 0, 0, []), some (.imul, 1, 0, 0, []), some (.aload_n 0, 1, 0, 0, []), some (.getfield 53, 3, 12, 28, []), none, none, some (.iconst 1, 1, 0, 0, []), some (.iaload, 1, 0, 0, []), some (.iconst 2, 1, 0, 0, []), some (.idiv, 1, 0, 0, []), some (.iadd, 1, 0, 0, []), some (.aload_n 0, 1, 0, 0, []), some (.getfield 53, 3, 12, 28, []), none, none, some (.iconst 2, 1, 0, 0, []), some (.iaload, 1, 0, 0, []), some (.iadd, 1, 0, 0, []), some (.iconst 3, 1, 0, 0, []), some (.aload_n 0, 1, 0, 0, []), some (.getfield 53, 3, 12, 28, []), none, none, some (.iconst 3, 1, 0, 0, []), some (.iaload, 1, 0, 0, []), some (.imul, 1, 0, 0, []), some (.iadd, 1, 0, 0, []), some (.goto 9, 3, 174, 0, []), none, none, some (.aload_n 0, 1, 0, 0, []), some (.getfield 50, 3, 12, 27, []), none, none, some (.iconst 0, 1, 0, 0, []), some (.iaload, 1, 0, 0, []), some (.istore_n 2, 1, 0, 0, []), some (.iconst 1, 1, 0, 0, []), some (.bipush 99, 2, 0, 0, []), none, some (.iload_n 2, 1, 0, 0, []), some (.invokestatic 139, 3, 9002, 0, []), none, none, some (.invokestatic 247, 3, 9001, 0, []), none, none, some (.ireturn, 1, 0, 0, [])]
def kX12_tiredAll : List (Option zi_I) := [some (.iconst 0, 1, 0, 0, []), some (.istore_n 3, 1, 0, 0, []), some (.iconst 0, 1, 0, 0, []), some (.istore 4, 2, 0, 0, []), none, some (.iload 4, 2, 0, 0, []), none, some (.aload_n 0, 1, 0, 0, []), some (.getfield 117, 3, 12, 4, []), none, none, some (.if_icmp .ge 31, 3, 42, 0, []), none, none, some (.iload_n 3, 1, 0, 0, []), some (.iload_n 2, 1, 0, 0, []), some (.iload 4, 2, 0, 0, []), none, some (.invokestatic 250, 3, 2404, 2, []), none, none, some (.ifCond .eq 12, 3, 33, 0, []), none, none, some (.aload_n 1, 1, 0, 0, []), some (.iload 4, 2, 0, 0, []), none, some (.invokestatic 254, 3, 2414, 2, []), none, none, some (.goto 4, 3, 34, 0, []), none, none, some (.iconst 0, 1, 0, 0, []), some (.iadd, 1, 0, 0, []), some (.istore_n 3, 1, 0, 0, []), some (.iinc 4 1, 3, 0, 0, []), none, none, some (.goto (-34), 3, 5, 0, []), none, none, some (.iload_n 3, 1, 0, 0, []), some (.ireturn, 1, 0, 0, [])]
def kX12_minutes : List (Option zi_I) := [some (.aload_n 0, 1, 0, 0, []), some (.aload_n 1, 1, 0, 0, []), some (.iload_n 2, 1, 0, 0, []), some (.invokevirtual 257, 3, 2415, 2, []), none, none, some (.istore 5, 2, 0, 0, []), none, some (.aload_n 0, 1, 0, 0, []), some (.getfield 53, 3, 12, 28, []), none, none, some (.iconst 0, 1, 0, 0, []), some (.aload_n 0, 1, 0, 0, []), some (.getfield 17, 3, 12, 9, []), none, none, some (.iload_n 3, 1, 0, 0, []), some (.iaload, 1, 0, 0, []), some (.iastore, 1, 0, 0, []), some (.aload_n 0, 1, 0, 0, []), some (.getfield 53, 3, 12, 28, []), none, none, some (.iconst 1, 1, 0, 0, []), some (.aload_n 0, 1, 0, 0, []), some (.aload_n 1, 1, 0, 0, []), some (.iload 5, 2, 0, 0, []), none, some (.invokevirtual 260, 3, 2441, 2, []), none, none, some (.iastore, 1, 0, 0, []), some (.aload_n 0, 1, 0, 0, []), some (.getfield 53, 3, 12, 28, []), none, none, some (.iconst 2, 1, 0, 0, []), some (.aload_n 0, 1, 0, 0, []), some (.getfield 29, 3, 12, 13, []), none, none, some (.iload_n 2, 1, 0, 0, []), some (.iaload, 1, 0, 0, []), some (.iastore, 1, 0, 0, []), some (.aload_n 0, 1, 0, 0, []), some (.getfield 53, 3, 12, 28, []), none, none, some (.iconst 3, 1, 0, 0, []), some (.aload_n 1, 1, 0, 0, []), some (.iload_n 3, 1, 0, 0, []), some (.iaload, 1, 0, 0, []), some (.iload 4, 2, 0, 0, []), none, some (.if_icmp .ne 7, 3, 62, 0, []), none, none, some (.iconst 1, 1, 0, 0, []), some (.goto 4, 3, 63, 0, []), none, none, some (.iconst 0, 1, 0, 0, []), some (.invokestatic 148, 3, 2405, 1, []), none, none, some (.iastore, 1, 0, 0, []), some (.aload_n 0, 1, 0, 0, []), some (.getfield 53, 3, 12, 28, []), none, none, some (.iconst 4, 1, 0, 0, []), some (.iload 4, 2, 0, 0, []), none, some (.iastore, 1, 0, 0, []), some (.aload_n 0, 1, 0, 0, []), some (.getfield 53, 3, 12, 28, []), none, none, some (.iconst 5, 1, 0, 0, []), some (.iload 5, 2, 0, 0, []), none, some (.invokestatic 263, 3, 2800, 1, []), none, none, some (.iastore, 1, 0, 0, []), some (.aload_n 0, 1, 0, 0, []), some (.getfield 53, 3, 12, 28, []), none, none, some (.bipush 6, 2, 0, 0, []), none, some (.aload_n 1, 1, 0, 0, []), some (.bipush 9, 2, 0, 0, []), none, some (.iaload, 1, 0, 0, []), some (.bipush 60, 2, 0, 0, []), none, some (.irem, 1, 0, 0, []), some (.iastore, 1, 0, 0, []), some (.aload_n 0, 1, 0, 0, []), some (.invokevirtual 268, 3, 2440, 0, []), none, none, some (.ireturn, 1, 0, 0, [])]
def kX12_laysNotes : List (Option zi_I) := [some (.iconst 0, 1, 0, 0, []), some (.istore_n 3, 1, 0, 0, []), some (.iload_n 3, 1, 0, 0, []), some (.iconst 4, 1, 0, 0, []), some (.if_icmp .ge 27, 3, 31, 0, []), none, none, some (.aload_n 0, 1, 0, 0, []), some (.getfield 56, 3, 12, 29, []), none, none, some (.iload_n 3, 1, 0, 0, []), some (.aload_n 0, 1, 0, 0, []), some (.getfield 13, 3, 12, 8, []), none, none, some (.iconst 4, 1, 0, 0, []), some (.iload_n 1, 1, 0, 0, []), some (.imul, 1, 0, 0, []), some (.iload_n 3, 1, 0, 0, []), some (.iadd, 1, 0, 0, []), some (.iaload, 1, 0, 0, []), some (.iload_n 2, 1, 0, 0, []), some (.iadd, 1, 0, 0, []), some (.iastore, 1, 0, 0, []), some (.iinc 3 1, 3, 0, 0, []), none, none, some (.goto (-26), 3, 2, 0, []), none, none, some (.return_, 1, 0, 0, [])]
def kX12_canSing : List (Option zi_I) := [some (.aload_n 0, 1, 0, 0, []), some (.getfield 271, 3, 12, 6, []), none, none, some (.iload_n 3, 1, 0, 0, []), some (.invokestatic 250, 3, 2404, 2, []), none, none, some (.ifCond .ne 35, 3, 43, 0, []), none, none, some (.iload_n 3, 1, 0, 0, []), some (.i2l, 1, 0, 0, []), some (.aload_n 0, 1, 0, 0, []), some (.getfield 20, 3, 12, 10, []), none, none, some (.iload_n 2, 1, 0, 0, []), some (.iaload, 1, 0, 0, []), some (.i2l, 1, 0, 0, []), some (.aload_n 0, 1, 0, 0, []), some (.getfield 23, 3, 12, 11, []), none, none, some (.iload_n 2, 1, 0, 0, []), some (.iaload, 1, 0, 0, []), some (.aload_n 1, 1, 0, 0, []), some (.iload_n 2, 1, 0, 0, []), some (.invokestatic 254, 3, 2414, 2, []), none, none, some (.isub, 1, 0, 0, []), some (.i2l, 1, 0, 0, []), some (.invokestatic 113, 3, 2403, 3, []), none, none, some (.ifCond .eq 7, 3, 43, 0, []), none, none, some (.iconst 1, 1, 0, 0, []), some (.goto 4, 3, 44, 0, []), none, none, some (.iconst 0, 1, 0, 0, []), some (.ireturn, 1, 0, 0, [])]
def kX12_singsFrom : List (Option zi_I) := [some (.iload 4, 2, 0, 0, []), none, some (.iconst 4, 1, 0, 0, []), some (.if_icmp .ne 5, 3, 8, 0, []), none, none, some (.iconst 1, 1, 0, 0, []), some (.ireturn, 1, 0, 0, []), some (.iload_n 3, 1, 0, 0, []), some (.iload 4, 2, 0, 0, []), none, some (.invokestatic 250, 3, 2404, 2, []), none, none, some (.ifCond .ne 15, 3, 29, 0, []), none, none, some (.aload_n 0, 1, 0, 0, []), some (.aload_n 1, 1, 0, 0, []), some (.iload_n 2, 1, 0, 0, []), some (.iload_n 3, 1, 0, 0, []), some (.iload 4, 2, 0, 0, []), none, some (.iconst 1, 1, 0, 0, []), some (.iadd, 1, 0, 0, []), some (.invokevirtual 274, 3, 2445, 4, []), none, none, some (.ireturn, 1, 0, 0, []), some (.iconst 0, 1, 0, 0, []), some (.istore 5, 2, 0, 0, []), none, some (.iload 5, 2, 0, 0, []), none, some (.aload_n 0, 1, 0, 0, []), some (.getfield 117, 3, 12, 4, []), none, none, some (.if_icmp .ge 67, 3, 105, 0, []), none, none, some (.iload_n 2, 1, 0, 0, []), some (.iload 5, 2, 0, 0, []), none, some (.invokestatic 250, 3, 2404, 2, []), none, none, some (.ifCond .eq 52, 3, 99, 0, []), none, none, some (.aload_n 0, 1, 0, 0, []), some (.aload_n 1, 1, 0, 0, []), some (.iload 5, 2, 0, 0, []), none, some (.aload_n 0, 1, 0, 0, []), some (.getfield 56, 3, 12, 29, []), none, none, some (.iload 4, 2, 0, 0, []), none, some (.iaload, 1, 0, 0, []), some (.invokevirtual 278, 3, 2444, 3, []), none, none, some (.ifCond .eq 35, 3, 99, 0, []), none, none, some (.aload_n 0, 1, 0, 0, []), some (.getfield 59, 3, 12, 30, []), none, none, some (.iload 4, 2, 0, 0, []), none, some (.iload 5, 2, 0, 0, []), none, some (.iastore, 1, 0, 0, []), some (.aload_n 0, 1, 0, 0, []), some (.aload_n 1, 1, 0, 0, []), some (.iload_n 2, 1, 0, 0, []), some (.iconst 1, 1, 0, 0, []), some (.iload 5, 2, 0, 0, []), none, some (.ishl, 1, 0, 0, []), some (.iconst (-1), 1, 0, 0, []), some (.ixor, 1, 0, 0, []), some (.iand, 1, 0, 0, []), some (.iload_n 3, 1, 0, 0, []), some (.iload 4, 2, 0, 0, []), none, some (.iconst 1, 1, 0, 0, []), some (.iadd, 1, 0, 0, []), some (.invokevirtual 274, 3, 2445, 4, []), none, none, some (.ifCond .eq 5, 3, 99, 0, []), none, none, some (.iconst 1, 1, 0, 0, []), some (.ireturn, 1, 0, 0, []), some (.iinc 5 1, 3, 0, 0, []), none, none, some (.goto (-70), 3, 32, 0, []), none, none, some (.iconst 0, 1, 0, 0, []), some (.ireturn, 1, 0, 0, [])]
def kX12_singsChord : List (Option zi_I) := [some (.aload_n 0, 1, 0, 0, []), some (.iload_n 3, 1, 0, 0, []), some (.iconst 0, 1, 0, 0, []), some (.invokevirtual 282, 3, 2443, 2, []), none, none, some (.aload_n 0, 1, 0, 0, []), some (.aload_n 1, 1, 0, 0, []), some (.iload_n 2, 1, 0, 0, []), some (.bipush 15, 2, 0, 0, []), none, some (.iconst 0, 1, 0, 0, []), some (.invokevirtual 274, 3, 2445, 4, []), none, none, some (.ireturn, 1, 0, 0, [])]
def kX12_tellsSung : List (Option zi_I) := [some (.aload_n 0, 1, 0, 0, []), some (.iconst 0, 1, 0, 0, []), some (.putfield 107, 3, 12, 1, []), none, none, some (.iconst 0, 1, 0, 0, []), some (.istore_n 1, 1, 0, 0, []), some (.iload_n 1, 1, 0, 0, []), some (.iconst 4, 1, 0, 0, []), some (.if_icmp .ge 20, 3, 29, 0, []), none, none, some (.aload_n 0, 1, 0, 0, []), some (.aload_n 0, 1, 0, 0, []), some (.getfield 59, 3, 12, 30, []), none, none, some (.iload_n 1, 1, 0, 0, []), some (.iaload, 1, 0, 0, []), some (.i2l, 1, 0, 0, []), some (.invokevirtual 286, 3, 2407, 1, []), none, none, some (.iinc 1 1, 3, 0, 0, []), none, none, some (.goto (-19), 3, 7, 0, []), none, none, some (.return_, 1, 0, 0, [])]
def kX12_lock : List (Option zi_I) := [some (.aload_n 0, 1, 0, 0, []), some (.iconst 0, 1, 0, 0, []), some (.putfield 99, 3, 12, 0, []), none, none, some (.aload_n 0, 1, 0, 0, []), some (.iload_n 1, 1, 0, 0, []), some (.invokevirtual 290, 3, 2408, 1, []), none, none, some (.ifCond .eq 15, 3, 25, 0, []), none, none, some (.iload_n 2, 1, 0, 0, []), some (.i2l, 1, 0, 0, []), some (.lconst 0, 1, 0, 0, []), some (.ldc2_w 293, 3, 5, 0, []), none, none, some (.invokestatic 113, 3, 2403, 3, []), none, none, some (.ifCond .ne 8, 3, 30, 0, []), none, none, some (.aload_n 0, 1, 0, 0, []), some (.invokevirtual 295, 3, 2402, 0, []), none, none, some (.ireturn, 1, 0, 0, []), some (.iload_n 2, 1, 0, 0, []), some (.iconst 4, 1, 0, 0, []), some (.if_icmp .ge 16, 3, 48, 0, []), none, none, some (.aload_n 0, 1, 0, 0, []), some (.getfield 13, 3, 12, 8, []), none, none, some (.iconst 4, 1, 0, 0, []), some (.iload_n 1, 1, 0, 0, []), some (.imul, 1, 0, 0, []), some (.iload_n 2, 1, 0, 0, []), some (.iadd, 1, 0, 0, []), some (.iaload, 1, 0, 0, []), some (.goto 23, 3, 68, 0, []), none, none, some (.iload_n 2, 1, 0, 0, []), some (.iconst 4, 1, 0, 0, []), some (.if_icmp .ne 12, 3, 62, 0, []), none, none, some (.aload_n 0, 1, 0, 0, []), some (.getfield 17, 3, 12, 9, []), none, none, some (.iload_n 1, 1, 0, 0, []), some (.iaload, 1, 0, 0, []), some (.goto 9, 3, 68, 0, []), none, none, some (.aload_n 0, 1, 0, 0, []), some (.getfield 32, 3, 12, 14, []), none, none, some (.iload_n 1, 1, 0, 0, []), some (.iaload, 1, 0, 0, []), some (.ireturn, 1, 0, 0, [])]
def kX12_singer : List (Option zi_I) := [some (.aload_n 0, 1, 0, 0, []), some (.iconst 0, 1, 0, 0, []), some (.putfield 99, 3, 12, 0, []), none, none, some (.aload_n 0, 1, 0, 0, []), some (.iload_n 1, 1, 0, 0, []), some (.invokevirtual 298, 3, 2409, 1, []), none, none, some (.ifCond .eq 15, 3, 25, 0, []), none, none, some (.iload_n 2, 1, 0, 0, []), some (.i2l, 1, 0, 0, []), some (.lconst 0, 1, 0, 0, []), some (.ldc2_w 293, 3, 5, 0, []), none, none, some (.invokestatic 113, 3, 2403, 3, []), none, none, some (.ifCond .ne 8, 3, 30, 0, []), none, none, some (.aload_n 0, 1, 0, 0, []), some (.invokevirtual 295, 3, 2402, 0, []), none, none, some (.ireturn, 1, 0, 0, []), some (.iload_n 2, 1, 0, 0, []), some (.tableswitch 69 0 4 #[33, 40, 47, 54, 63], 33, 100, 0, [(0, 64), (1, 71), (2, 78), (3, 85), (4, 94)]), none, none, none, none, none, none, none, none, none, none, none, none, none, none, none, none, none, none, none, none, none, none, none, none, none, none, none, none, none, none, none, none, some (.aload_n 0, 1, 0, 0, []), some (.getfield 20, 3, 12, 10, []), none, none, some (.iload_n 1, 1, 0, 0, []), some (.iaload, 1, 0, 0, []), some (.ireturn, 1, 0, 0, []), some (.aload_n 0, 1, 0, 0, []), some (.getfield 23, 3, 12, 11, []), none, none, some (.iload_n 1, 1, 0, 0, []), some (.iaload, 1, 0, 0, []), some (.ireturn, 1, 0, 0, []), some (.aload_n 0, 1, 0, 0, []), some (.getfield 26, 3, 12, 12, []), none, none, some (.iload_n 1, 1, 0, 0, []), some (.iaload, 1, 0, 0, []), some (.ireturn, 1, 0, 0, []), some (.aload_n 0, 1, 0, 0, []), some (.getfield 32, 3, 12, 14, []), none, none, some (.iload_n 1, 1, 0, 0, []), some (.invokestatic 254, 3, 2414, 2, []), none, none, some (.ireturn, 1, 0, 0, []), some (.aload_n 0, 1, 0, 0, []), some (.iload_n 1, 1, 0, 0, []), some (.invokevirtual 301, 3, 2416, 1, []), none, none, some (.ireturn, 1, 0, 0, []), some (.aload_n 0, 1, 0, 0, []), some (.getfield 32, 3, 12, 14, []), none, none, some (.iload_n 1, 1, 0, 0, []), some (.invokestatic 123, 3, 2413, 2, []), none, none, some (.ireturn, 1, 0, 0, [])]
def kX12_barge : List (Option zi_I) := [some (.aload_n 0, 1, 0, 0, []), some (.iconst 0, 1, 0, 0, []), some (.putfield 99, 3, 12, 0, []), none, none, some (.aload_n 0, 1, 0, 0, []), some (.iload_n 1, 1, 0, 0, []), some (.invokevirtual 304, 3, 2410, 1, []), none, none, some (.ifCond .eq 15, 3, 25, 0, []), none, none, some (.iload_n 2, 1, 0, 0, []), some (.i2l, 1, 0, 0, []), some (.lconst 0, 1, 0, 0, []), some (.ldc2_w 307, 3, 3, 0, []), none, none, some (.invokestatic 113, 3, 2403, 3, []), none, none, some (.ifCond .ne 8, 3, 30, 0, []), none, none, some (.aload_n 0, 1, 0, 0, []), some (.invokevirtual 295, 3, 2402, 0, []), none, none, some (.ireturn, 1, 0, 0, []), some (.iload_n 2, 1, 0, 0, []), some (.ifCond .ne 14, 3, 45, 0, []), none, none, some (.aload_n 0, 1, 0, 0, []), some (.getfield 32, 3, 12, 14, []), none, none, some (.iload_n 1, 1, 0, 0, []), some (.invokestatic 127, 3, 2412, 2, []), none, none, some (.goto 47, 3, 89, 0, []), none, none, some (.iload_n 2, 1, 0, 0, []), some (.iconst 1, 1, 0, 0, []), some (.if_icmp .ne 12, 3, 59, 0, []), none, none, some (.aload_n 0, 1, 0, 0, []), some (.getfield 29, 3, 12, 13, []), none, none, some (.iload_n 1, 1, 0, 0, []), some (.iaload, 1, 0, 0, []), some (.goto 33, 3, 89, 0, []), none, none, some (.iload_n 2, 1, 0, 0, []), some (.iconst 2, 1, 0, 0, []), some (.if_icmp .ne 19, 3, 80, 0, []), none, none, some (.aload_n 0, 1, 0, 0, []), some (.getfield 32, 3, 12, 14, []), none, none, some (.bipush 34, 2, 0, 0, []), none, some (.iconst 2, 1, 0, 0, []), some (.iload_n 1, 1, 0, 0, []), some (.imul, 1, 0, 0, []), some (.iadd, 1, 0, 0, []), some (.iconst 1, 1, 0, 0, []), some (.iadd, 1, 0, 0, []), some (.iaload, 1, 0, 0, []), some (.goto 12, 3, 89, 0, []), none, none, some (.aload_n 0, 1, 0, 0, []), some (.aload_n 0, 1, 0, 0, []), some (.getfield 32, 3, 12, 14, []), none, none, some (.iload_n 1, 1, 0, 0, []), some (.invokevirtual 257, 3, 2415, 2, []), none, none, some (.ireturn, 1, 0, 0, [])]
def kX12_set : List (Option zi_I) := [some (.aload_n 0, 1, 0, 0, []), some (.iconst 0, 1, 0, 0, []), some (.putfield 99, 3, 12, 0, []), none, none, some (.iload_n 1, 1, 0, 0, []), some (.i2l, 1, 0, 0, []), some (.lconst 0, 1, 0, 0, []), some (.lconst 1, 1, 0, 0, []), some (.invokestatic 113, 3, 2403, 3, []), none, none, some (.ifCond .eq 25, 3, 37, 0, []), none, none, some (.iload_n 2, 1, 0, 0, []), some (.i2l, 1, 0, 0, []), some (.lconst 0, 1, 0, 0, []), some (.iload_n 1, 1, 0, 0, []), some (.ifCond .ne 9, 3, 28, 0, []), none, none, some (.ldc2_w 309, 3, 999, 0, []), none, none, some (.goto 6, 3, 31, 0, []), none, none, some (.ldc2_w 311, 3, 67108863, 0, []), none, none, some (.invokestatic 113, 3, 2403, 3, []), none, none, some (.ifCond .ne 5, 3, 39, 0, []), none, none, some (.iconst (-1), 1, 0, 0, []), some (.ireturn, 1, 0, 0, []), some (.iload_n 1, 1, 0, 0, []), some (.ifCond .ne 13, 3, 53, 0, []), none, none, some (.aload_n 0, 1, 0, 0, []), some (.getfield 32, 3, 12, 14, []), none, none, some (.bipush 8, 2, 0, 0, []), none, some (.iaload, 1, 0, 0, []), some (.goto 7, 3, 57, 0, []), none, none, some (.aload_n 0, 1, 0, 0, []), some (.getfield 271, 3, 12, 6, []), none, none, some (.istore_n 3, 1, 0, 0, []), some (.aload_n 0, 1, 0, 0, []), some (.getfield 32, 3, 12, 14, []), none, none, some (.bipush 8, 2, 0, 0, []), none, some (.iload_n 1, 1, 0, 0, []), some (.ifCond .ne 7, 3, 72, 0, []), none, none, some (.iload_n 2, 1, 0, 0, []), some (.goto 10, 3, 79, 0, []), none, none, some (.aload_n 0, 1, 0, 0, []), some (.getfield 32, 3, 12, 14, []), none, none, some (.bipush 8, 2, 0, 0, []), none, some (.iaload, 1, 0, 0, []), some (.iastore, 1, 0, 0, []), some (.aload_n 0, 1, 0, 0, []), some (.iload_n 1, 1, 0, 0, []), some (.iconst 1, 1, 0, 0, []), some (.if_icmp .ne 7, 3, 90, 0, []), none, none, some (.iload_n 2, 1, 0, 0, []), some (.goto 7, 3, 94, 0, []), none, none, some (.aload_n 0, 1, 0, 0, []), some (.getfield 271, 3, 12, 6, []), none, none, some (.putfield 271, 3, 12, 6, []), none, none, some (.iload_n 3, 1, 0, 0, []), some (.ireturn, 1, 0, 0, [])]
def kX12_sheet : List (Option zi_I) := [some (.aload_n 0, 1, 0, 0, []), some (.iconst 0, 1, 0, 0, []), some (.putfield 99, 3, 12, 0, []), none, none, some (.iload_n 1, 1, 0, 0, []), some (.i2l, 1, 0, 0, []), some (.lconst 0, 1, 0, 0, []), some (.ldc2_w 307, 3, 3, 0, []), none, none, some (.invokestatic 113, 3, 2403, 3, []), none, none, some (.ifCond .eq 9, 3, 23, 0, []), none, none, some (.iload_n 2, 1, 0, 0, []), some (.bipush 8, 2, 0, 0, []), none, some (.if_icmp .le 5, 3, 25, 0, []), none, none, some (.iconst (-1), 1, 0, 0, []), some (.ireturn, 1, 0, 0, []), some (.iload_n 1, 1, 0, 0, []), some (.iconst 3, 1, 0, 0, []), some (.if_icmp .eq 10, 3, 37, 0, []), none, none, some (.iload_n 2, 1, 0, 0, []), some (.ifCond .ge 6, 3, 37, 0, []), none, none, some (.bipush (-2), 2, 0, 0, []), none, some (.ireturn, 1, 0, 0, []), some (.iconst 0, 1, 0, 0, []), some (.istore 5, 2, 0, 0, []), none, some (.iload_n 3, 1, 0, 0, []), some (.istore 6, 2, 0, 0, []), none, some (.iconst 0, 1, 0, 0, []), some (.istore 7, 2, 0, 0, []), none, some (.iload 7, 2, 0, 0, []), none, some (.aload_n 0, 1, 0, 0, []), some (.getfield 117, 3, 12, 4, []), none, none, some (.if_icmp .ge 86, 3, 138, 0, []), none, none, some (.iload_n 1, 1, 0, 0, []), some (.ifCond .ne 9, 3, 65, 0, []), none, none, some (.iload 6, 2, 0, 0, []), none, some (.i2b, 1, 0, 0, []), some (.goto 16, 3, 78, 0, []), none, none, some (.iload_n 1, 1, 0, 0, []), some (.iconst 1, 1, 0, 0, []), some (.if_icmp .ne 9, 3, 76, 0, []), none, none, some (.iload 6, 2, 0, 0, []), none, some (.i2s, 1, 0, 0, []), some (.goto 5, 3, 78, 0, []), none, none, some (.iload 6, 2, 0, 0, []), none, some (.istore 8, 2, 0, 0, []), none, some (.aload_n 0, 1, 0, 0, []), some (.getfield 26, 3, 12, 12, []), none, none, some (.iload 7, 2, 0, 0, []), none, some (.iload_n 1, 1, 0, 0, []), some (.iconst 3, 1, 0, 0, []), some (.if_icmp .eq 9, 3, 97, 0, []), none, none, some (.iload 7, 2, 0, 0, []), none, some (.iload_n 2, 1, 0, 0, []), some (.if_icmp .lt 7, 3, 101, 0, []), none, none, some (.iconst 0, 1, 0, 0, []), some (.goto 14, 3, 112, 0, []), none, none, some (.iconst 0, 1, 0, 0, []), some (.bipush 99, 2, 0, 0, []), none, some (.iload 8, 2, 0, 0, []), none, some (.invokestatic 139, 3, 9002, 0, []), none, none, some (.invokestatic 247, 3, 9001, 0, []), none, none, some (.iastore, 1, 0, 0, []), some (.iload 5, 2, 0, 0, []), none, some (.aload_n 0, 1, 0, 0, []), some (.getfield 26, 3, 12, 12, []), none, none, some (.iload 7, 2, 0, 0, []), none, some (.iaload, 1, 0, 0, []), some (.iadd, 1, 0, 0, []), some (.istore 5, 2, 0, 0, []), none, some (.iload 6, 2, 0, 0, []), none, some (.iload 4, 2, 0, 0, []), none, some (.iadd, 1, 0, 0, []), some (.istore 6, 2, 0, 0, []), none, some (.iinc 7 1, 3, 0, 0, []), none, none, some (.goto (-89), 3, 46, 0, []), none, none, some (.iload_n 1, 1, 0, 0, []), some (.iconst 3, 1, 0, 0, []), some (.if_icmp .ne 8, 3, 148, 0, []), none, none, some (.bipush (-3), 2, 0, 0, []), none, some (.goto 5, 3, 150, 0, []), none, none, some (.iload 5, 2, 0, 0, []), none, some (.ireturn, 1, 0, 0, [])]
def kX12_putsBy : List (Option zi_I) := [some (.iconst 0, 1, 0, 0, []), some (.istore_n 1, 1, 0, 0, []), some (.iload_n 1, 1, 0, 0, []), some (.bipush 42, 2, 0, 0, []), none, some (.if_icmp .ge 29, 3, 34, 0, []), none, none, some (.aload_n 0, 1, 0, 0, []), some (.getfield 62, 3, 12, 32, []), none, none, some (.bipush 42, 2, 0, 0, []), none, some (.aload_n 0, 1, 0, 0, []), some (.getfield 205, 3, 12, 31, []), none, none, some (.imul, 1, 0, 0, []), some (.iload_n 1, 1, 0, 0, []), some (.iadd, 1, 0, 0, []), some (.aload_n 0, 1, 0, 0, []), some (.getfield 32, 3, 12, 14, []), none, none, some (.iload_n 1, 1, 0, 0, []), some (.iaload, 1, 0, 0, []), some (.iastore, 1, 0, 0, []), some (.iinc 1 1, 3, 0, 0, []), none, none, some (.goto (-29), 3, 2, 0, []), none, none, some (.return_, 1, 0, 0, [])]
def kX12_adds : List (Option zi_I) := [some (.aload_n 0, 1, 0, 0, []), some (.dup, 1, 0, 0, []), some (.getfield 205, 3, 12, 31, []), none, none, some (.iconst 1, 1, 0, 0, []), some (.iadd, 1, 0, 0, []), some (.putfield 205, 3, 12, 31, []), none, none, some (.aload_n 0, 1, 0, 0, []), some (.getfield 205, 3, 12, 31, []), none, none, some (.bipush 15, 2, 0, 0, []), none, some (.if_icmp .le 43, 3, 59, 0, []), none, none, some (.iconst 0, 1, 0, 0, []), some (.istore_n 2, 1, 0, 0, []), some (.iload_n 2, 1, 0, 0, []), some (.sipush 630, 3, 0, 0, []), none, none, some (.if_icmp .ge 24, 3, 49, 0, []), none, none, some (.aload_n 0, 1, 0, 0, []), some (.getfield 62, 3, 12, 32, []), none, none, some (.iload_n 2, 1, 0, 0, []), some (.aload_n 0, 1, 0, 0, []), some (.getfield 62, 3, 12, 32, []), none, none, some (.iload_n 2, 1, 0, 0, []), some (.bipush 42, 2, 0, 0, []), none, some (.iadd, 1, 0, 0, []), some (.iaload, 1, 0, 0, []), some (.iastore, 1, 0, 0, []), some (.iinc 2 1, 3, 0, 0, []), none, none, some (.goto (-25), 3, 21, 0, []), none, none, some (.aload_n 0, 1, 0, 0, []), some (.dup, 1, 0, 0, []), some (.getfield 205, 3, 12, 31, []), none, none, some (.iconst 1, 1, 0, 0, []), some (.isub, 1, 0, 0, []), some (.putfield 205, 3, 12, 31, []), none, none, some (.iload_n 1, 1, 0, 0, []), some (.ireturn, 1, 0, 0, [])]
def kX12_counts : List (Option zi_I) := [some (.iload_n 1, 1, 0, 0, []), some (.ifCond .ge 7, 3, 8, 0, []), none, none, some (.iload_n 1, 1, 0, 0, []), some (.goto 8, 3, 13, 0, []), none, none, some (.aload_n 0, 1, 0, 0, []), some (.iload_n 1, 1, 0, 0, []), some (.invokevirtual 313, 3, 2454, 1, []), none, none, some (.ireturn, 1, 0, 0, [])]
def kX12_undo : List (Option zi_I) := [some (.aload_n 0, 1, 0, 0, []), some (.iconst 0, 1, 0, 0, []), some (.putfield 99, 3, 12, 0, []), none, none, some (.aload_n 0, 1, 0, 0, []), some (.getfield 205, 3, 12, 31, []), none, none, some (.ifCond .ne 5, 3, 14, 0, []), none, none, some (.iconst (-1), 1, 0, 0, []), some (.ireturn, 1, 0, 0, []), some (.aload_n 0, 1, 0, 0, []), some (.dup, 1, 0, 0, []), some (.getfield 205, 3, 12, 31, []), none, none, some (.iconst 1, 1, 0, 0, []), some (.isub, 1, 0, 0, []), some (.putfield 205, 3, 12, 31, []), none, none, some (.iconst 0, 1, 0, 0, []), some (.istore_n 1, 1, 0, 0, []), some (.iload_n 1, 1, 0, 0, []), some (.bipush 42, 2, 0, 0, []), none, some (.if_icmp .ge 29, 3, 58, 0, []), none, none, some (.aload_n 0, 1, 0, 0, []), some (.getfield 32, 3, 12, 14, []), none, none, some (.iload_n 1, 1, 0, 0, []), some (.aload_n 0, 1, 0, 0, []), some (.getfield 62, 3, 12, 32, []), none, none, some (.bipush 42, 2, 0, 0, []), none, some (.aload_n 0, 1, 0, 0, []), some (.getfield 205, 3, 12, 31, []), none, none, some (.imul, 1, 0, 0, []), some (.iload_n 1, 1, 0, 0, []), some (.iadd, 1, 0, 0, []), some (.iaload, 1, 0, 0, []), some (.iastore, 1, 0, 0, []), some (.iinc 1 1, 3, 0, 0, []), none, none, some (.goto (-29), 3, 26, 0, []), none, none, some (.aload_n 0, 1, 0, 0, []), some (.getfield 205, 3, 12, 31, []), none, none, some (.ireturn, 1, 0, 0, [])]
def kX12_hiresTo : List (Option zi_I) := [some (.aload_n 0, 1, 0, 0, []), some (.iload_n 2, 1, 0, 0, []), some (.invokevirtual 304, 3, 2410, 1, []), none, none, some (.ifCond .eq 11, 3, 16, 0, []), none, none, some (.aload_n 0, 1, 0, 0, []), some (.iload_n 3, 1, 0, 0, []), some (.invokevirtual 298, 3, 2409, 1, []), none, none, some (.ifCond .ne 5, 3, 18, 0, []), none, none, some (.iconst (-1), 1, 0, 0, []), some (.ireturn, 1, 0, 0, []), some (.aload_n 1, 1, 0, 0, []), some (.iload_n 3, 1, 0, 0, []), some (.invokestatic 123, 3, 2413, 2, []), none, none, some (.ifCond .ge 21, 3, 44, 0, []), none, none, some (.aload_n 1, 1, 0, 0, []), some (.bipush 10, 2, 0, 0, []), none, some (.iconst 3, 1, 0, 0, []), some (.iload_n 3, 1, 0, 0, []), some (.imul, 1, 0, 0, []), some (.iadd, 1, 0, 0, []), some (.iconst 0, 1, 0, 0, []), some (.iadd, 1, 0, 0, []), some (.iaload, 1, 0, 0, []), some (.aload_n 1, 1, 0, 0, []), some (.iload_n 2, 1, 0, 0, []), some (.invokestatic 127, 3, 2412, 2, []), none, none, some (.if_icmp .eq 6, 3, 47, 0, []), none, none, some (.bipush (-2), 2, 0, 0, []), none, some (.ireturn, 1, 0, 0, []), some (.bipush 34, 2, 0, 0, []), none, some (.iconst 2, 1, 0, 0, []), some (.iload_n 2, 1, 0, 0, []), some (.imul, 1, 0, 0, []), some (.iadd, 1, 0, 0, []), some (.iconst 1, 1, 0, 0, []), some (.iadd, 1, 0, 0, []), some (.istore 4, 2, 0, 0, []), none, some (.aload_n 1, 1, 0, 0, []), some (.iload 4, 2, 0, 0, []), none, some (.iaload, 1, 0, 0, []), some (.aload_n 0, 1, 0, 0, []), some (.getfield 26, 3, 12, 12, []), none, none, some (.iload_n 3, 1, 0, 0, []), some (.iaload, 1, 0, 0, []), some (.if_icmp .ge 6, 3, 73, 0, []), none, none, some (.bipush (-3), 2, 0, 0, []), none, some (.ireturn, 1, 0, 0, []), some (.aload_n 1, 1, 0, 0, []), some (.iload 4, 2, 0, 0, []), none, some (.dup2, 1, 0, 0, []), some (.iaload, 1, 0, 0, []), some (.aload_n 0, 1, 0, 0, []), some (.getfield 26, 3, 12, 12, []), none, none, some (.iload_n 3, 1, 0, 0, []), some (.iaload, 1, 0, 0, []), some (.isub, 1, 0, 0, []), some (.iastore, 1, 0, 0, []), some (.aload_n 1, 1, 0, 0, []), some (.bipush 10, 2, 0, 0, []), none, some (.iconst 3, 1, 0, 0, []), some (.iload_n 3, 1, 0, 0, []), some (.imul, 1, 0, 0, []), some (.iadd, 1, 0, 0, []), some (.iconst 1, 1, 0, 0, []), some (.iadd, 1, 0, 0, []), some (.iload_n 2, 1, 0, 0, []), some (.iastore, 1, 0, 0, []), some (.aload_n 1, 1, 0, 0, []), some (.iload 4, 2, 0, 0, []), none, some (.iaload, 1, 0, 0, []), some (.ireturn, 1, 0, 0, [])]
def kX12_leaves : List (Option zi_I) := [some (.aload_n 0, 1, 0, 0, []), some (.iload_n 2, 1, 0, 0, []), some (.invokevirtual 298, 3, 2409, 1, []), none, none, some (.ifCond .ne 5, 3, 10, 0, []), none, none, some (.iconst (-1), 1, 0, 0, []), some (.ireturn, 1, 0, 0, []), some (.aload_n 1, 1, 0, 0, []), some (.iload_n 2, 1, 0, 0, []), some (.invokestatic 123, 3, 2413, 2, []), none, none, some (.istore_n 3, 1, 0, 0, []), some (.iload_n 3, 1, 0, 0, []), some (.ifCond .ge 6, 3, 23, 0, []), none, none, some (.bipush (-2), 2, 0, 0, []), none, some (.ireturn, 1, 0, 0, []), some (.aload_n 1, 1, 0, 0, []), some (.bipush 10, 2, 0, 0, []), none, some (.iconst 3, 1, 0, 0, []), some (.iload_n 2, 1, 0, 0, []), some (.imul, 1, 0, 0, []), some (.iadd, 1, 0, 0, []), some (.iconst 0, 1, 0, 0, []), some (.iadd, 1, 0, 0, []), some (.aload_n 1, 1, 0, 0, []), some (.iload_n 3, 1, 0, 0, []), some (.invokestatic 127, 3, 2412, 2, []), none, none, some (.iastore, 1, 0, 0, []), some (.aload_n 1, 1, 0, 0, []), some (.bipush 10, 2, 0, 0, []), none, some (.iconst 3, 1, 0, 0, []), some (.iload_n 2, 1, 0, 0, []), some (.imul, 1, 0, 0, []), some (.iadd, 1, 0, 0, []), some (.iconst 1, 1, 0, 0, []), some (.iadd, 1, 0, 0, []), some (.iconst (-1), 1, 0, 0, []), some (.iastore, 1, 0, 0, []), some (.iload_n 3, 1, 0, 0, []), some (.ireturn, 1, 0, 0, [])]
def kX12_waterFor : List (Option zi_I) := [some (.iload_n 1, 1, 0, 0, []), some (.iconst 1, 1, 0, 0, []), some (.if_icmp .ne 7, 3, 9, 0, []), none, none, some (.iload_n 0, 1, 0, 0, []), some (.goto 4, 3, 10, 0, []), none, none, some (.iconst 1, 1, 0, 0, []), some (.ireturn, 1, 0, 0, [])]
def kX12_whyNot : List (Option zi_I) := [some (.aload_n 0, 1, 0, 0, []), some (.iload_n 2, 1, 0, 0, []), some (.invokevirtual 304, 3, 2410, 1, []), none, none, some (.ifCond .eq 13, 3, 18, 0, []), none, none, some (.iload_n 3, 1, 0, 0, []), some (.i2l, 1, 0, 0, []), some (.lconst 0, 1, 0, 0, []), some (.lconst 1, 1, 0, 0, []), some (.invokestatic 113, 3, 2403, 3, []), none, none, some (.ifCond .ne 5, 3, 20, 0, []), none, none, some (.iconst (-1), 1, 0, 0, []), some (.ireturn, 1, 0, 0, []), some (.aload_n 1, 1, 0, 0, []), some (.iload_n 2, 1, 0, 0, []), some (.invokestatic 127, 3, 2412, 2, []), none, none, some (.iconst 1, 1, 0, 0, []), some (.isub, 1, 0, 0, []), some (.iload_n 3, 1, 0, 0, []), some (.iadd, 1, 0, 0, []), some (.istore 4, 2, 0, 0, []), none, some (.aload_n 0, 1, 0, 0, []), some (.iload 4, 2, 0, 0, []), none, some (.invokevirtual 290, 3, 2408, 1, []), none, none, some (.ifCond .ne 6, 3, 43, 0, []), none, none, some (.bipush (-2), 2, 0, 0, []), none, some (.ireturn, 1, 0, 0, []), some (.aload_n 0, 1, 0, 0, []), some (.aload_n 1, 1, 0, 0, []), some (.aload_n 0, 1, 0, 0, []), some (.aload_n 1, 1, 0, 0, []), some (.iload_n 2, 1, 0, 0, []), some (.invokevirtual 257, 3, 2415, 2, []), none, none, some (.iload 4, 2, 0, 0, []), none, some (.invokevirtual 316, 3, 2446, 3, []), none, none, some (.ifCond .ne 6, 3, 62, 0, []), none, none, some (.bipush (-3), 2, 0, 0, []), none, some (.ireturn, 1, 0, 0, []), some (.aload_n 1, 1, 0, 0, []), some (.bipush 8, 2, 0, 0, []), none, some (.iaload, 1, 0, 0, []), some (.aload_n 1, 1, 0, 0, []), some (.iload 4, 2, 0, 0, []), none, some (.iaload, 1, 0, 0, []), some (.iload_n 3, 1, 0, 0, []), some (.invokestatic 319, 3, 2459, 2, []), none, none, some (.if_icmp .ge 8, 3, 82, 0, []), none, none, some (.bipush (-4), 2, 0, 0, []), none, some (.goto 4, 3, 83, 0, []), none, none, some (.iconst 0, 1, 0, 0, []), some (.ireturn, 1, 0, 0, [])]
def kX12_passes : List (Option zi_I) := [some (.aload_n 0, 1, 0, 0, []), some (.aload_n 1, 1, 0, 0, []), some (.iload_n 2, 1, 0, 0, []), some (.iload_n 3, 1, 0, 0, []), some (.invokevirtual 322, 3, 2460, 3, []), none, none, some (.istore 4, 2, 0, 0, []), none, some (.iload 4, 2, 0, 0, []), none, some (.ifCond .ge 6, 3, 17, 0, []), none, none, some (.iload 4, 2, 0, 0, []), none, some (.ireturn, 1, 0, 0, []), some (.aload_n 1, 1, 0, 0, []), some (.iload_n 2, 1, 0, 0, []), some (.invokestatic 127, 3, 2412, 2, []), none, none, some (.iconst 1, 1, 0, 0, []), some (.isub, 1, 0, 0, []), some (.iload_n 3, 1, 0, 0, []), some (.iadd, 1, 0, 0, []), some (.istore 5, 2, 0, 0, []), none, some (.aload_n 0, 1, 0, 0, []), some (.aload_n 1, 1, 0, 0, []), some (.iload_n 2, 1, 0, 0, []), some (.iload 5, 2, 0, 0, []), none, some (.iload_n 3, 1, 0, 0, []), some (.invokevirtual 326, 3, 2442, 4, []), none, none, some (.istore 6, 2, 0, 0, []), none, some (.aload_n 1, 1, 0, 0, []), some (.bipush 8, 2, 0, 0, []), none, some (.dup2, 1, 0, 0, []), some (.iaload, 1, 0, 0, []), some (.aload_n 1, 1, 0, 0, []), some (.iload 5, 2, 0, 0, []), none, some (.iaload, 1, 0, 0, []), some (.iload_n 3, 1, 0, 0, []), some (.invokestatic 319, 3, 2459, 2, []), none, none, some (.isub, 1, 0, 0, []), some (.iastore, 1, 0, 0, []), some (.aload_n 1, 1, 0, 0, []), some (.iload 5, 2, 0, 0, []), none, some (.iload_n 3, 1, 0, 0, []), some (.iastore, 1, 0, 0, []), some (.aload_n 1, 1, 0, 0, []), some (.bipush 34, 2, 0, 0, []), none, some (.iconst 2, 1, 0, 0, []), some (.iload_n 2, 1, 0, 0, []), some (.imul, 1, 0, 0, []), some (.iadd, 1, 0, 0, []), some (.iconst 0, 1, 0, 0, []), some (.iadd, 1, 0, 0, []), some (.dup2, 1, 0, 0, []), some (.iaload, 1, 0, 0, []), some (.iconst 2, 1, 0, 0, []), some (.iload_n 3, 1, 0, 0, []), some (.imul, 1, 0, 0, []), some (.iconst 1, 1, 0, 0, []), some (.isub, 1, 0, 0, []), some (.iadd, 1, 0, 0, []), some (.iastore, 1, 0, 0, []), some (.aload_n 1, 1, 0, 0, []), some (.bipush 9, 2, 0, 0, []), none, some (.dup2, 1, 0, 0, []), some (.iaload, 1, 0, 0, []), some (.iload 6, 2, 0, 0, []), none, some (.iadd, 1, 0, 0, []), some (.iastore, 1, 0, 0, []), some (.iconst 0, 1, 0, 0, []), some (.istore 7, 2, 0, 0, []), none, some (.iload 7, 2, 0, 0, []), none, some (.iconst 4, 1, 0, 0, []), some (.if_icmp .ge 40, 3, 132, 0, []), none, none, some (.bipush 10, 2, 0, 0, []), none, some (.iconst 3, 1, 0, 0, []), some (.aload_n 0, 1, 0, 0, []), some (.getfield 59, 3, 12, 30, []), none, none, some (.iload 7, 2, 0, 0, []), none, some (.iaload, 1, 0, 0, []), some (.imul, 1, 0, 0, []), some (.iadd, 1, 0, 0, []), some (.iconst 2, 1, 0, 0, []), some (.iadd, 1, 0, 0, []), some (.istore 8, 2, 0, 0, []), none, some (.aload_n 1, 1, 0, 0, []), some (.iload 8, 2, 0, 0, []), none, some (.bipush 9, 2, 0, 0, []), none, some (.aload_n 1, 1, 0, 0, []), some (.iload 8, 2, 0, 0, []), none, some (.iaload, 1, 0, 0, []), some (.iconst 1, 1, 0, 0, []), some (.iadd, 1, 0, 0, []), some (.invokestatic 139, 3, 9002, 0, []), none, none, some (.iastore, 1, 0, 0, []), some (.iinc 7 1, 3, 0, 0, []), none, none, some (.goto (-40), 3, 89, 0, []), none, none, some (.iload 6, 2, 0, 0, []), none, some (.ireturn, 1, 0, 0, [])]
def kX12_restsFor : List (Option zi_I) := [some (.iconst 0, 1, 0, 0, []), some (.istore_n 3, 1, 0, 0, []), some (.iload_n 3, 1, 0, 0, []), some (.iload_n 2, 1, 0, 0, []), some (.if_icmp .ge 68, 3, 72, 0, []), none, none, some (.aload_n 1, 1, 0, 0, []), some (.bipush 9, 2, 0, 0, []), none, some (.dup2, 1, 0, 0, []), some (.iaload, 1, 0, 0, []), some (.iconst 1, 1, 0, 0, []), some (.iadd, 1, 0, 0, []), some (.iastore, 1, 0, 0, []), some (.iconst 0, 1, 0, 0, []), some (.istore 4, 2, 0, 0, []), none, some (.iload 4, 2, 0, 0, []), none, some (.aload_n 0, 1, 0, 0, []), some (.getfield 117, 3, 12, 4, []), none, none, some (.if_icmp .ge 42, 3, 66, 0, []), none, none, some (.aload_n 1, 1, 0, 0, []), some (.bipush 9, 2, 0, 0, []), none, some (.iaload, 1, 0, 0, []), some (.bipush 10, 2, 0, 0, []), none, some (.irem, 1, 0, 0, []), some (.ifCond .ne 32, 3, 66, 0, []), none, none, some (.aload_n 1, 1, 0, 0, []), some (.bipush 10, 2, 0, 0, []), none, some (.iconst 3, 1, 0, 0, []), some (.iload 4, 2, 0, 0, []), none, some (.imul, 1, 0, 0, []), some (.iadd, 1, 0, 0, []), some (.iconst 2, 1, 0, 0, []), some (.iadd, 1, 0, 0, []), some (.iconst 0, 1, 0, 0, []), some (.aload_n 1, 1, 0, 0, []), some (.iload 4, 2, 0, 0, []), none, some (.invokestatic 254, 3, 2414, 2, []), none, none, some (.iconst 1, 1, 0, 0, []), some (.isub, 1, 0, 0, []), some (.invokestatic 247, 3, 9001, 0, []), none, none, some (.iastore, 1, 0, 0, []), some (.iinc 4 1, 3, 0, 0, []), none, none, some (.goto (-45), 3, 18, 0, []), none, none, some (.iinc 3 1, 3, 0, 0, []), none, none, some (.goto (-67), 3, 2, 0, []), none, none, some (.return_, 1, 0, 0, [])]
def kX12_hire : List (Option zi_I) := [some (.aload_n 0, 1, 0, 0, []), some (.iconst 0, 1, 0, 0, []), some (.putfield 99, 3, 12, 0, []), none, none, some (.aload_n 0, 1, 0, 0, []), some (.invokevirtual 330, 3, 2453, 0, []), none, none, some (.aload_n 0, 1, 0, 0, []), some (.aload_n 0, 1, 0, 0, []), some (.aload_n 0, 1, 0, 0, []), some (.getfield 32, 3, 12, 14, []), none, none, some (.iload_n 1, 1, 0, 0, []), some (.iload_n 2, 1, 0, 0, []), some (.invokevirtual 333, 3, 2457, 3, []), none, none, some (.invokevirtual 336, 3, 2455, 1, []), none, none, some (.ireturn, 1, 0, 0, [])]
def kX12_leave : List (Option zi_I) := [some (.aload_n 0, 1, 0, 0, []), some (.iconst 0, 1, 0, 0, []), some (.putfield 99, 3, 12, 0, []), none, none, some (.aload_n 0, 1, 0, 0, []), some (.invokevirtual 330, 3, 2453, 0, []), none, none, some (.aload_n 0, 1, 0, 0, []), some (.aload_n 0, 1, 0, 0, []), some (.aload_n 0, 1, 0, 0, []), some (.getfield 32, 3, 12, 14, []), none, none, some (.iload_n 1, 1, 0, 0, []), some (.invokevirtual 339, 3, 2458, 2, []), none, none, some (.invokevirtual 336, 3, 2455, 1, []), none, none, some (.ireturn, 1, 0, 0, [])]
def kX12_pass : List (Option zi_I) := [some (.aload_n 0, 1, 0, 0, []), some (.iconst 0, 1, 0, 0, []), some (.putfield 99, 3, 12, 0, []), none, none, some (.aload_n 0, 1, 0, 0, []), some (.invokevirtual 330, 3, 2453, 0, []), none, none, some (.aload_n 0, 1, 0, 0, []), some (.aload_n 0, 1, 0, 0, []), some (.getfield 32, 3, 12, 14, []), none, none, some (.iload_n 1, 1, 0, 0, []), some (.iload_n 2, 1, 0, 0, []), some (.invokevirtual 342, 3, 2461, 3, []), none, none, some (.istore_n 3, 1, 0, 0, []), some (.iload_n 3, 1, 0, 0, []), some (.ifCond .lt 7, 3, 28, 0, []), none, none, some (.aload_n 0, 1, 0, 0, []), some (.invokevirtual 345, 3, 2447, 0, []), none, none, some (.aload_n 0, 1, 0, 0, []), some (.iload_n 3, 1, 0, 0, []), some (.invokevirtual 336, 3, 2455, 1, []), none, none, some (.ireturn, 1, 0, 0, [])]
def kX12_rest : List (Option zi_I) := [some (.aload_n 0, 1, 0, 0, []), some (.iconst 0, 1, 0, 0, []), some (.putfield 99, 3, 12, 0, []), none, none, some (.iload_n 1, 1, 0, 0, []), some (.i2l, 1, 0, 0, []), some (.lconst 0, 1, 0, 0, []), some (.ldc2_w 348, 3, 600, 0, []), none, none, some (.invokestatic 113, 3, 2403, 3, []), none, none, some (.ifCond .ne 5, 3, 19, 0, []), none, none, some (.iconst (-1), 1, 0, 0, []), some (.ireturn, 1, 0, 0, []), some (.aload_n 0, 1, 0, 0, []), some (.invokevirtual 330, 3, 2453, 0, []), none, none, some (.aload_n 0, 1, 0, 0, []), some (.aload_n 0, 1, 0, 0, []), some (.getfield 32, 3, 12, 14, []), none, none, some (.iload_n 1, 1, 0, 0, []), some (.invokevirtual 350, 3, 2462, 2, []), none, none, some (.aload_n 0, 1, 0, 0, []), some (.aload_n 0, 1, 0, 0, []), some (.getfield 32, 3, 12, 14, []), none, none, some (.bipush 9, 2, 0, 0, []), none, some (.iaload, 1, 0, 0, []), some (.invokevirtual 313, 3, 2454, 1, []), none, none, some (.ireturn, 1, 0, 0, [])]
def kX12_readsAct : List (Option zi_I) := [some (.aload_n 0, 1, 0, 0, []), some (.getfield 354, 3, 12, 36, []), none, none, some (.istore_n 1, 1, 0, 0, []), some (.aload_n 0, 1, 0, 0, []), some (.getfield 65, 3, 12, 33, []), none, none, some (.iload_n 1, 1, 0, 0, []), some (.aload_n 0, 1, 0, 0, []), some (.ldc_w 357, 3, 8, 1, []), none, none, some (.invokevirtual 229, 3, 2423, 1, []), none, none, some (.iastore, 1, 0, 0, []), some (.aload_n 0, 1, 0, 0, []), some (.dup, 1, 0, 0, []), some (.getfield 354, 3, 12, 36, []), none, none, some (.iconst 1, 1, 0, 0, []), some (.iadd, 1, 0, 0, []), some (.putfield 354, 3, 12, 36, []), none, none, some (.aload_n 0, 1, 0, 0, []), some (.getfield 65, 3, 12, 33, []), none, none, some (.iload_n 1, 1, 0, 0, []), some (.iaload, 1, 0, 0, []), some (.ifCond .ge 5, 3, 39, 0, []), none, none, some (.iconst 0, 1, 0, 0, []), some (.ireturn, 1, 0, 0, []), some (.aload_n 0, 1, 0, 0, []), some (.getfield 68, 3, 12, 34, []), none, none, some (.iload_n 1, 1, 0, 0, []), some (.aload_n 0, 1, 0, 0, []), some (.aload_n 0, 1, 0, 0, []), some (.getfield 65, 3, 12, 33, []), none, none, some (.iload_n 1, 1, 0, 0, []), some (.iaload, 1, 0, 0, []), some (.iconst 4, 1, 0, 0, []), some (.if_icmp .ne 7, 3, 59, 0, []), none, none, some (.iconst 3, 1, 0, 0, []), some (.goto 4, 3, 60, 0, []), none, none, some (.iconst 1, 1, 0, 0, []), some (.invokevirtual 185, 3, 2424, 1, []), none, none, some (.iastore, 1, 0, 0, []), some (.aload_n 0, 1, 0, 0, []), some (.getfield 68, 3, 12, 34, []), none, none, some (.iload_n 1, 1, 0, 0, []), some (.iaload, 1, 0, 0, []), some (.ifCond .lt 12, 3, 82, 0, []), none, none, some (.aload_n 0, 1, 0, 0, []), some (.getfield 65, 3, 12, 33, []), none, none, some (.iload_n 1, 1, 0, 0, []), some (.iaload, 1, 0, 0, []), some (.ifCond .le 18, 3, 97, 0, []), none, none, some (.aload_n 0, 1, 0, 0, []), some (.getfield 68, 3, 12, 34, []), none, none, some (.iload_n 1, 1, 0, 0, []), some (.iaload, 1, 0, 0, []), some (.ifCond .lt 7, 3, 95, 0, []), none, none, some (.iconst 1, 1, 0, 0, []), some (.goto 4, 3, 96, 0, []), none, none, some (.iconst 0, 1, 0, 0, []), some (.ireturn, 1, 0, 0, []), some (.aload_n 0, 1, 0, 0, []), some (.getfield 71, 3, 12, 35, []), none, none, some (.iload_n 1, 1, 0, 0, []), some (.aload_n 0, 1, 0, 0, []), some (.iconst 1, 1, 0, 0, []), some (.invokevirtual 185, 3, 2424, 1, []), none, none, some (.iastore, 1, 0, 0, []), some (.aload_n 0, 1, 0, 0, []), some (.getfield 71, 3, 12, 35, []), none, none, some (.iload_n 1, 1, 0, 0, []), some (.iaload, 1, 0, 0, []), some (.ifCond .lt 7, 3, 121, 0, []), none, none, some (.iconst 1, 1, 0, 0, []), some (.goto 4, 3, 122, 0, []), none, none, some (.iconst 0, 1, 0, 0, []), some (.ireturn, 1, 0, 0, [])]
def kX12_does : List (Option zi_I) := [some (.aload_n 0, 1, 0, 0, []), some (.getfield 68, 3, 12, 34, []), none, none, some (.iload_n 1, 1, 0, 0, []), some (.iaload, 1, 0, 0, []), some (.istore_n 2, 1, 0, 0, []), some (.aload_n 0, 1, 0, 0, []), some (.getfield 65, 3, 12, 33, []), none, none, some (.iload_n 1, 1, 0, 0, []), some (.iaload, 1, 0, 0, []), some (.tableswitch 114 0 3 #[31, 55, 73, 73], 31, 127, 0, [(0, 44), (1, 68), (2, 86), (3, 86)]), none, none, none, none, none, none, none, none, none, none, none, none, none, none, none, none, none, none, none, none, none, none, none, none, none, none, none, none, none, none, some (.aload_n 0, 1, 0, 0, []), some (.aload_n 0, 1, 0, 0, []), some (.getfield 32, 3, 12, 14, []), none, none, some (.iload_n 2, 1, 0, 0, []), some (.aload_n 0, 1, 0, 0, []), some (.getfield 71, 3, 12, 35, []), none, none, some (.iload_n 1, 1, 0, 0, []), some (.iaload, 1, 0, 0, []), some (.invokevirtual 333, 3, 2457, 3, []), none, none, some (.ifCond .lt 7, 3, 66, 0, []), none, none, some (.iconst 1, 1, 0, 0, []), some (.goto 4, 3, 67, 0, []), none, none, some (.iconst 0, 1, 0, 0, []), some (.ireturn, 1, 0, 0, []), some (.aload_n 0, 1, 0, 0, []), some (.aload_n 0, 1, 0, 0, []), some (.getfield 32, 3, 12, 14, []), none, none, some (.iload_n 2, 1, 0, 0, []), some (.invokevirtual 339, 3, 2458, 2, []), none, none, some (.ifCond .lt 7, 3, 84, 0, []), none, none, some (.iconst 1, 1, 0, 0, []), some (.goto 4, 3, 85, 0, []), none, none, some (.iconst 0, 1, 0, 0, []), some (.ireturn, 1, 0, 0, []), some (.aload_n 0, 1, 0, 0, []), some (.aload_n 0, 1, 0, 0, []), some (.getfield 32, 3, 12, 14, []), none, none, some (.iload_n 2, 1, 0, 0, []), some (.iconst 3, 1, 0, 0, []), some (.aload_n 0, 1, 0, 0, []), some (.getfield 65, 3, 12, 33, []), none, none, some (.iload_n 1, 1, 0, 0, []), some (.iaload, 1, 0, 0, []), some (.isub, 1, 0, 0, []), some (.invokevirtual 342, 3, 2461, 3, []), none, none, some (.ifCond .lt 7, 3, 110, 0, []), none, none, some (.iconst 1, 1, 0, 0, []), some (.goto 4, 3, 111, 0, []), none, none, some (.iconst 0, 1, 0, 0, []), some (.istore_n 3, 1, 0, 0, []), some (.aload_n 0, 1, 0, 0, []), some (.dup, 1, 0, 0, []), some (.getfield 359, 3, 12, 37, []), none, none, some (.iload_n 3, 1, 0, 0, []), some (.invokestatic 148, 3, 2405, 1, []), none, none, some (.iadd, 1, 0, 0, []), some (.putfield 359, 3, 12, 37, []), none, none, some (.iload_n 3, 1, 0, 0, []), some (.ireturn, 1, 0, 0, []), some (.iload_n 2, 1, 0, 0, []), some (.sipush 600, 3, 0, 0, []), none, none, some (.if_icmp .le 5, 3, 136, 0, []), none, none, some (.iconst 0, 1, 0, 0, []), some (.ireturn, 1, 0, 0, []), some (.aload_n 0, 1, 0, 0, []), some (.aload_n 0, 1, 0, 0, []), some (.getfield 32, 3, 12, 14, []), none, none, some (.iload_n 2, 1, 0, 0, []), some (.invokevirtual 350, 3, 2462, 2, []), none, none, some (.iconst 1, 1, 0, 0, []), some (.ireturn, 1, 0, 0, [])]
def kX12_day : List (Option zi_I) := [some (.aload_n 0, 1, 0, 0, []), some (.iconst 0, 1, 0, 0, []), some (.putfield 99, 3, 12, 0, []), none, none, some (.aload_n 0, 1, 0, 0, []), some (.bipush 60, 2, 0, 0, []), none, some (.invokevirtual 189, 3, 2419, 1, []), none, none, some (.istore_n 1, 1, 0, 0, []), some (.aload_n 0, 1, 0, 0, []), some (.iconst 0, 1, 0, 0, []), some (.putfield 354, 3, 12, 36, []), none, none, some (.iconst 1, 1, 0, 0, []), some (.istore_n 2, 1, 0, 0, []), some (.iload_n 1, 1, 0, 0, []), some (.ifCond .le 7, 3, 27, 0, []), none, none, some (.iconst 1, 1, 0, 0, []), some (.goto 4, 3, 28, 0, []), none, none, some (.iconst 0, 1, 0, 0, []), some (.istore_n 3, 1, 0, 0, []), some (.iload_n 3, 1, 0, 0, []), some (.ifCond .eq 30, 3, 60, 0, []), none, none, some (.aload_n 0, 1, 0, 0, []), some (.invokevirtual 362, 3, 2467, 0, []), none, none, some (.istore_n 2, 1, 0, 0, []), some (.iload_n 2, 1, 0, 0, []), some (.ifCond .eq 16, 3, 55, 0, []), none, none, some (.aload_n 0, 1, 0, 0, []), some (.bipush 59, 2, 0, 0, []), none, some (.invokevirtual 181, 3, 2420, 1, []), none, none, some (.ifCond .eq 7, 3, 55, 0, []), none, none, some (.iconst 1, 1, 0, 0, []), some (.goto 4, 3, 56, 0, []), none, none, some (.iconst 0, 1, 0, 0, []), some (.istore_n 3, 1, 0, 0, []), some (.goto (-28), 3, 29, 0, []), none, none, some (.aload_n 0, 1, 0, 0, []), some (.iload_n 1, 1, 0, 0, []), some (.bipush 60, 2, 0, 0, []), none, some (.iload_n 2, 1, 0, 0, []), some (.invokevirtual 201, 3, 2426, 3, []), none, none, some (.istore 4, 2, 0, 0, []), none, some (.iload 4, 2, 0, 0, []), none, some (.ifCond .ge 6, 3, 78, 0, []), none, none, some (.iload 4, 2, 0, 0, []), none, some (.ireturn, 1, 0, 0, []), some (.aload_n 0, 1, 0, 0, []), some (.invokevirtual 330, 3, 2453, 0, []), none, none, some (.aload_n 0, 1, 0, 0, []), some (.iconst 0, 1, 0, 0, []), some (.putfield 359, 3, 12, 37, []), none, none, some (.iconst 0, 1, 0, 0, []), some (.istore 5, 2, 0, 0, []), none, some (.iload 5, 2, 0, 0, []), none, some (.aload_n 0, 1, 0, 0, []), some (.getfield 354, 3, 12, 36, []), none, none, some (.if_icmp .ge 18, 3, 114, 0, []), none, none, some (.aload_n 0, 1, 0, 0, []), some (.iload 5, 2, 0, 0, []), none, some (.invokevirtual 365, 3, 2468, 1, []), none, none, some (.ifCond .eq 9, 3, 114, 0, []), none, none, some (.iinc 5 1, 3, 0, 0, []), none, none, some (.goto (-21), 3, 90, 0, []), none, none, some (.aload_n 0, 1, 0, 0, []), some (.iconst 0, 1, 0, 0, []), some (.putfield 107, 3, 12, 1, []), none, none, some (.aload_n 0, 1, 0, 0, []), some (.iload 5, 2, 0, 0, []), none, some (.aload_n 0, 1, 0, 0, []), some (.getfield 354, 3, 12, 36, []), none, none, some (.if_icmp .ge 7, 3, 133, 0, []), none, none, some (.iconst 1, 1, 0, 0, []), some (.goto 4, 3, 134, 0, []), none, none, some (.iconst 0, 1, 0, 0, []), some (.invokestatic 148, 3, 2405, 1, []), none, none, some (.i2l, 1, 0, 0, []), some (.invokevirtual 286, 3, 2407, 1, []), none, none, some (.aload_n 0, 1, 0, 0, []), some (.aload_n 0, 1, 0, 0, []), some (.getfield 359, 3, 12, 37, []), none, none, some (.i2l, 1, 0, 0, []), some (.invokevirtual 286, 3, 2407, 1, []), none, none, some (.iload 5, 2, 0, 0, []), none, some (.ifCond .le 12, 3, 164, 0, []), none, none, some (.aload_n 0, 1, 0, 0, []), some (.iload 5, 2, 0, 0, []), none, some (.invokevirtual 313, 3, 2454, 1, []), none, none, some (.goto 4, 3, 165, 0, []), none, none, some (.iconst 0, 1, 0, 0, []), some (.ireturn, 1, 0, 0, [])]
def kX12_isPair : List (Option zi_I) := [some (.aload_n 0, 1, 0, 0, []), some (.iload_n 1, 1, 0, 0, []), some (.invokevirtual 304, 3, 2410, 1, []), none, none, some (.ifCond .eq 15, 3, 20, 0, []), none, none, some (.aload_n 0, 1, 0, 0, []), some (.iload_n 2, 1, 0, 0, []), some (.invokevirtual 290, 3, 2408, 1, []), none, none, some (.ifCond .eq 7, 3, 20, 0, []), none, none, some (.iconst 1, 1, 0, 0, []), some (.goto 4, 3, 21, 0, []), none, none, some (.iconst 0, 1, 0, 0, []), some (.ireturn, 1, 0, 0, [])]
def kX12_sings : List (Option zi_I) := [some (.aload_n 0, 1, 0, 0, []), some (.iconst 0, 1, 0, 0, []), some (.putfield 99, 3, 12, 0, []), none, none, some (.aload_n 0, 1, 0, 0, []), some (.iload_n 1, 1, 0, 0, []), some (.iload_n 2, 1, 0, 0, []), some (.invokevirtual 368, 3, 2470, 2, []), none, none, some (.ifCond .ne 5, 3, 16, 0, []), none, none, some (.iconst (-1), 1, 0, 0, []), some (.ireturn, 1, 0, 0, []), some (.aload_n 0, 1, 0, 0, []), some (.aload_n 0, 1, 0, 0, []), some (.getfield 32, 3, 12, 14, []), none, none, some (.aload_n 0, 1, 0, 0, []), some (.aload_n 0, 1, 0, 0, []), some (.getfield 32, 3, 12, 14, []), none, none, some (.iload_n 1, 1, 0, 0, []), some (.invokevirtual 257, 3, 2415, 2, []), none, none, some (.iload_n 2, 1, 0, 0, []), some (.invokevirtual 316, 3, 2446, 3, []), none, none, some (.istore_n 3, 1, 0, 0, []), some (.iload_n 3, 1, 0, 0, []), some (.ifCond .eq 10, 3, 46, 0, []), none, none, some (.aload_n 0, 1, 0, 0, []), some (.invokevirtual 345, 3, 2447, 0, []), none, none, some (.goto 8, 3, 51, 0, []), none, none, some (.aload_n 0, 1, 0, 0, []), some (.iconst 0, 1, 0, 0, []), some (.putfield 107, 3, 12, 1, []), none, none, some (.iload_n 3, 1, 0, 0, []), some (.invokestatic 148, 3, 2405, 1, []), none, none, some (.ireturn, 1, 0, 0, [])]
def kX12_lacks : List (Option zi_I) := [some (.aload_n 0, 1, 0, 0, []), some (.iconst 0, 1, 0, 0, []), some (.putfield 99, 3, 12, 0, []), none, none, some (.aload_n 0, 1, 0, 0, []), some (.iload_n 1, 1, 0, 0, []), some (.iload_n 2, 1, 0, 0, []), some (.invokevirtual 368, 3, 2470, 2, []), none, none, some (.ifCond .ne 5, 3, 16, 0, []), none, none, some (.iconst (-1), 1, 0, 0, []), some (.ireturn, 1, 0, 0, []), some (.aload_n 0, 1, 0, 0, []), some (.iload_n 2, 1, 0, 0, []), some (.iconst 0, 1, 0, 0, []), some (.invokevirtual 282, 3, 2443, 2, []), none, none, some (.iconst 0, 1, 0, 0, []), some (.istore_n 3, 1, 0, 0, []), some (.iconst 1, 1, 0, 0, []), some (.istore 4, 2, 0, 0, []), none, some (.iload 4, 2, 0, 0, []), none, some (.bipush 16, 2, 0, 0, []), none, some (.if_icmp .ge 63, 3, 94, 0, []), none, none, some (.iload 4, 2, 0, 0, []), none, some (.invokestatic 263, 3, 2800, 1, []), none, none, some (.iload_n 3, 1, 0, 0, []), some (.invokestatic 263, 3, 2800, 1, []), none, none, some (.if_icmp .le 7, 3, 50, 0, []), none, none, some (.iconst 1, 1, 0, 0, []), some (.goto 4, 3, 51, 0, []), none, none, some (.iconst 0, 1, 0, 0, []), some (.istore 5, 2, 0, 0, []), none, some (.iload 5, 2, 0, 0, []), none, some (.ifCond .eq 31, 3, 86, 0, []), none, none, some (.aload_n 0, 1, 0, 0, []), some (.aload_n 0, 1, 0, 0, []), some (.getfield 32, 3, 12, 14, []), none, none, some (.aload_n 0, 1, 0, 0, []), some (.aload_n 0, 1, 0, 0, []), some (.getfield 32, 3, 12, 14, []), none, none, some (.iload_n 1, 1, 0, 0, []), some (.invokevirtual 257, 3, 2415, 2, []), none, none, some (.iload 4, 2, 0, 0, []), none, some (.iconst 0, 1, 0, 0, []), some (.invokevirtual 274, 3, 2445, 4, []), none, none, some (.ifCond .eq 8, 3, 86, 0, []), none, none, some (.iload 4, 2, 0, 0, []), none, some (.goto 4, 3, 87, 0, []), none, none, some (.iload_n 3, 1, 0, 0, []), some (.istore_n 3, 1, 0, 0, []), some (.iinc 4 1, 3, 0, 0, []), none, none, some (.goto (-64), 3, 27, 0, []), none, none, some (.aload_n 0, 1, 0, 0, []), some (.iconst 0, 1, 0, 0, []), some (.putfield 107, 3, 12, 1, []), none, none, some (.aload_n 0, 1, 0, 0, []), some (.iload_n 3, 1, 0, 0, []), some (.i2l, 1, 0, 0, []), some (.invokevirtual 286, 3, 2407, 1, []), none, none, some (.iload_n 3, 1, 0, 0, []), some (.invokestatic 263, 3, 2800, 1, []), none, none, some (.ireturn, 1, 0, 0, [])]
def kX12_spoils : List (Option zi_I) := [some (.aload_n 0, 1, 0, 0, []), some (.iconst 0, 1, 0, 0, []), some (.putfield 99, 3, 12, 0, []), none, none, some (.aload_n 0, 1, 0, 0, []), some (.iload_n 1, 1, 0, 0, []), some (.iload_n 2, 1, 0, 0, []), some (.invokevirtual 368, 3, 2470, 2, []), none, none, some (.ifCond .ne 5, 3, 16, 0, []), none, none, some (.iconst (-1), 1, 0, 0, []), some (.ireturn, 1, 0, 0, []), some (.aload_n 0, 1, 0, 0, []), some (.aload_n 0, 1, 0, 0, []), some (.getfield 32, 3, 12, 14, []), none, none, some (.iload_n 1, 1, 0, 0, []), some (.invokevirtual 257, 3, 2415, 2, []), none, none, some (.istore_n 3, 1, 0, 0, []), some (.iconst (-1), 1, 0, 0, []), some (.istore 4, 2, 0, 0, []), none, some (.iconst 0, 1, 0, 0, []), some (.istore 5, 2, 0, 0, []), none, some (.iload 5, 2, 0, 0, []), none, some (.iload_n 3, 1, 0, 0, []), some (.if_icmp .gt 75, 3, 110, 0, []), none, none, some (.iload 4, 2, 0, 0, []), none, some (.ifCond .lt 16, 3, 56, 0, []), none, none, some (.iload 5, 2, 0, 0, []), none, some (.invokestatic 263, 3, 2800, 1, []), none, none, some (.iload 4, 2, 0, 0, []), none, some (.invokestatic 263, 3, 2800, 1, []), none, none, some (.if_icmp .ge 7, 3, 60, 0, []), none, none, some (.iconst 1, 1, 0, 0, []), some (.goto 4, 3, 61, 0, []), none, none, some (.iconst 0, 1, 0, 0, []), some (.istore 6, 2, 0, 0, []), none, some (.iload 6, 2, 0, 0, []), none, some (.ifCond .eq 35, 3, 100, 0, []), none, none, some (.iload 5, 2, 0, 0, []), none, some (.iload_n 3, 1, 0, 0, []), some (.iconst (-1), 1, 0, 0, []), some (.ixor, 1, 0, 0, []), some (.iand, 1, 0, 0, []), some (.ifCond .ne 26, 3, 100, 0, []), none, none, some (.aload_n 0, 1, 0, 0, []), some (.aload_n 0, 1, 0, 0, []), some (.getfield 32, 3, 12, 14, []), none, none, some (.iload_n 3, 1, 0, 0, []), some (.iload 5, 2, 0, 0, []), none, some (.iconst (-1), 1, 0, 0, []), some (.ixor, 1, 0, 0, []), some (.iand, 1, 0, 0, []), some (.iload_n 2, 1, 0, 0, []), some (.invokevirtual 316, 3, 2446, 3, []), none, none, some (.ifCond .ne 8, 3, 100, 0, []), none, none, some (.iload 5, 2, 0, 0, []), none, some (.goto 5, 3, 102, 0, []), none, none, some (.iload 4, 2, 0, 0, []), none, some (.istore 4, 2, 0, 0, []), none, some (.iinc 5 1, 3, 0, 0, []), none, none, some (.goto (-75), 3, 32, 0, []), none, none, some (.aload_n 0, 1, 0, 0, []), some (.iconst 0, 1, 0, 0, []), some (.putfield 107, 3, 12, 1, []), none, none, some (.aload_n 0, 1, 0, 0, []), some (.iload 4, 2, 0, 0, []), none, some (.i2l, 1, 0, 0, []), some (.invokevirtual 286, 3, 2407, 1, []), none, none, some (.iload 4, 2, 0, 0, []), none, some (.invokestatic 263, 3, 2800, 1, []), none, none, some (.ireturn, 1, 0, 0, [])]
def kX12_isShift : List (Option zi_I) := [some (.aload_n 0, 1, 0, 0, []), some (.iload_n 2, 1, 0, 0, []), some (.iload_n 3, 1, 0, 0, []), some (.invokevirtual 282, 3, 2443, 2, []), none, none, some (.iconst 1, 1, 0, 0, []), some (.istore 4, 2, 0, 0, []), none, some (.iconst 0, 1, 0, 0, []), some (.istore 5, 2, 0, 0, []), none, some (.iload 5, 2, 0, 0, []), none, some (.iconst 4, 1, 0, 0, []), some (.if_icmp .ge 39, 3, 54, 0, []), none, none, some (.iload 4, 2, 0, 0, []), none, some (.ifCond .eq 25, 3, 45, 0, []), none, none, some (.aload_n 0, 1, 0, 0, []), some (.getfield 56, 3, 12, 29, []), none, none, some (.iload 5, 2, 0, 0, []), none, some (.iaload, 1, 0, 0, []), some (.i2l, 1, 0, 0, []), some (.lconst 0, 1, 0, 0, []), some (.ldc2_w 371, 3, 25, 0, []), none, none, some (.invokestatic 113, 3, 2403, 3, []), none, none, some (.ifCond .eq 7, 3, 45, 0, []), none, none, some (.iconst 1, 1, 0, 0, []), some (.goto 4, 3, 46, 0, []), none, none, some (.iconst 0, 1, 0, 0, []), some (.istore 4, 2, 0, 0, []), none, some (.iinc 5 1, 3, 0, 0, []), none, none, some (.goto (-39), 3, 12, 0, []), none, none, some (.iload 4, 2, 0, 0, []), none, some (.ifCond .eq 30, 3, 86, 0, []), none, none, some (.aload_n 0, 1, 0, 0, []), some (.aload_n 0, 1, 0, 0, []), some (.getfield 32, 3, 12, 14, []), none, none, some (.aload_n 0, 1, 0, 0, []), some (.aload_n 0, 1, 0, 0, []), some (.getfield 32, 3, 12, 14, []), none, none, some (.iload_n 1, 1, 0, 0, []), some (.invokevirtual 257, 3, 2415, 2, []), none, none, some (.bipush 15, 2, 0, 0, []), none, some (.iconst 0, 1, 0, 0, []), some (.invokevirtual 274, 3, 2445, 4, []), none, none, some (.ifCond .eq 7, 3, 86, 0, []), none, none, some (.iconst 1, 1, 0, 0, []), some (.goto 4, 3, 87, 0, []), none, none, some (.iconst 0, 1, 0, 0, []), some (.ireturn, 1, 0, 0, [])]
def kX12_shift : List (Option zi_I) := [some (.aload_n 0, 1, 0, 0, []), some (.iconst 0, 1, 0, 0, []), some (.putfield 99, 3, 12, 0, []), none, none, some (.aload_n 0, 1, 0, 0, []), some (.iload_n 1, 1, 0, 0, []), some (.iload_n 2, 1, 0, 0, []), some (.invokevirtual 368, 3, 2470, 2, []), none, none, some (.ifCond .ne 5, 3, 16, 0, []), none, none, some (.iconst (-1), 1, 0, 0, []), some (.ireturn, 1, 0, 0, []), some (.iconst 0, 1, 0, 0, []), some (.istore_n 3, 1, 0, 0, []), some (.iload_n 3, 1, 0, 0, []), some (.bipush 26, 2, 0, 0, []), none, some (.if_icmp .ge 55, 3, 76, 0, []), none, none, some (.iload_n 3, 1, 0, 0, []), some (.ineg, 1, 0, 0, []), some (.istore 4, 2, 0, 0, []), none, some (.iload 4, 2, 0, 0, []), none, some (.iload_n 3, 1, 0, 0, []), some (.if_icmp .gt 39, 3, 70, 0, []), none, none, some (.aload_n 0, 1, 0, 0, []), some (.iload_n 1, 1, 0, 0, []), some (.iload_n 2, 1, 0, 0, []), some (.iload 4, 2, 0, 0, []), none, some (.invokevirtual 373, 3, 2474, 3, []), none, none, some (.ifCond .eq 13, 3, 55, 0, []), none, none, some (.aload_n 0, 1, 0, 0, []), some (.invokevirtual 345, 3, 2447, 0, []), none, none, some (.iload 4, 2, 0, 0, []), none, some (.bipush 100, 2, 0, 0, []), none, some (.iadd, 1, 0, 0, []), some (.ireturn, 1, 0, 0, []), some (.iload 4, 2, 0, 0, []), none, some (.iconst 1, 1, 0, 0, []), some (.iconst 2, 1, 0, 0, []), some (.iload_n 3, 1, 0, 0, []), some (.imul, 1, 0, 0, []), some (.invokestatic 247, 3, 9001, 0, []), none, none, some (.iadd, 1, 0, 0, []), some (.istore 4, 2, 0, 0, []), none, some (.goto (-39), 3, 28, 0, []), none, none, some (.iinc 3 1, 3, 0, 0, []), none, none, some (.goto (-55), 3, 18, 0, []), none, none, some (.bipush (-2), 2, 0, 0, []), none, some (.ireturn, 1, 0, 0, [])]
def kX12_fees : List (Option zi_I) := [some (.iconst 0, 1, 0, 0, []), some (.istore_n 2, 1, 0, 0, []), some (.iconst 0, 1, 0, 0, []), some (.istore_n 3, 1, 0, 0, []), some (.iload_n 3, 1, 0, 0, []), some (.aload_n 0, 1, 0, 0, []), some (.getfield 117, 3, 12, 4, []), none, none, some (.if_icmp .ge 30, 3, 39, 0, []), none, none, some (.iload_n 2, 1, 0, 0, []), some (.iload_n 1, 1, 0, 0, []), some (.iload_n 3, 1, 0, 0, []), some (.invokestatic 250, 3, 2404, 2, []), none, none, some (.ifCond .eq 12, 3, 30, 0, []), none, none, some (.aload_n 0, 1, 0, 0, []), some (.getfield 26, 3, 12, 12, []), none, none, some (.iload_n 3, 1, 0, 0, []), some (.iaload, 1, 0, 0, []), some (.goto 4, 3, 31, 0, []), none, none, some (.iconst 0, 1, 0, 0, []), some (.iadd, 1, 0, 0, []), some (.istore_n 2, 1, 0, 0, []), some (.iinc 3 1, 3, 0, 0, []), none, none, some (.goto (-32), 3, 4, 0, []), none, none, some (.iload_n 2, 1, 0, 0, []), some (.ireturn, 1, 0, 0, [])]
def kX12_isCheaper : List (Option zi_I) := [some (.iload_n 2, 1, 0, 0, []), some (.ifCond .lt 16, 3, 17, 0, []), none, none, some (.aload_n 0, 1, 0, 0, []), some (.iload_n 1, 1, 0, 0, []), some (.invokevirtual 377, 3, 2476, 1, []), none, none, some (.aload_n 0, 1, 0, 0, []), some (.iload_n 2, 1, 0, 0, []), some (.invokevirtual 377, 3, 2476, 1, []), none, none, some (.if_icmp .eq 26, 3, 40, 0, []), none, none, some (.iload_n 2, 1, 0, 0, []), some (.ifCond .lt 16, 3, 34, 0, []), none, none, some (.aload_n 0, 1, 0, 0, []), some (.iload_n 1, 1, 0, 0, []), some (.invokevirtual 377, 3, 2476, 1, []), none, none, some (.aload_n 0, 1, 0, 0, []), some (.iload_n 2, 1, 0, 0, []), some (.invokevirtual 377, 3, 2476, 1, []), none, none, some (.if_icmp .ge 7, 3, 38, 0, []), none, none, some (.iconst 1, 1, 0, 0, []), some (.goto 4, 3, 39, 0, []), none, none, some (.iconst 0, 1, 0, 0, []), some (.ireturn, 1, 0, 0, []), some (.iload_n 1, 1, 0, 0, []), some (.invokestatic 263, 3, 2800, 1, []), none, none, some (.iload_n 2, 1, 0, 0, []), some (.invokestatic 263, 3, 2800, 1, []), none, none, some (.if_icmp .ge 7, 3, 55, 0, []), none, none, some (.iconst 1, 1, 0, 0, []), some (.goto 4, 3, 56, 0, []), none, none, some (.iconst 0, 1, 0, 0, []), some (.ireturn, 1, 0, 0, [])]
def kX12_voicesOf : List (Option zi_I) := [some (.aload_n 0, 1, 0, 0, []), some (.aload_n 0, 1, 0, 0, []), some (.getfield 32, 3, 12, 14, []), none, none, some (.iload_n 1, 1, 0, 0, []), some (.invokevirtual 257, 3, 2415, 2, []), none, none, some (.istore 4, 2, 0, 0, []), none, some (.bipush (-2), 2, 0, 0, []), none, some (.istore 5, 2, 0, 0, []), none, some (.iconst 0, 1, 0, 0, []), some (.istore 6, 2, 0, 0, []), none, some (.iload 6, 2, 0, 0, []), none, some (.iload_n 3, 1, 0, 0, []), some (.if_icmp .gt 55, 3, 76, 0, []), none, none, some (.iload 6, 2, 0, 0, []), none, some (.iload_n 3, 1, 0, 0, []), some (.iconst (-1), 1, 0, 0, []), some (.ixor, 1, 0, 0, []), some (.iand, 1, 0, 0, []), some (.ifCond .ne 36, 3, 66, 0, []), none, none, some (.aload_n 0, 1, 0, 0, []), some (.iload 6, 2, 0, 0, []), none, some (.iload 5, 2, 0, 0, []), none, some (.invokevirtual 380, 3, 2477, 2, []), none, none, some (.ifCond .eq 25, 3, 66, 0, []), none, none, some (.aload_n 0, 1, 0, 0, []), some (.aload_n 0, 1, 0, 0, []), some (.getfield 32, 3, 12, 14, []), none, none, some (.iload 4, 2, 0, 0, []), none, some (.iload 6, 2, 0, 0, []), none, some (.ior, 1, 0, 0, []), some (.iload_n 2, 1, 0, 0, []), some (.invokevirtual 316, 3, 2446, 3, []), none, none, some (.ifCond .eq 8, 3, 66, 0, []), none, none, some (.iload 6, 2, 0, 0, []), none, some (.goto 5, 3, 68, 0, []), none, none, some (.iload 5, 2, 0, 0, []), none, some (.istore 5, 2, 0, 0, []), none, some (.iinc 6 1, 3, 0, 0, []), none, none, some (.goto (-55), 3, 18, 0, []), none, none, some (.iload 5, 2, 0, 0, []), none, some (.ireturn, 1, 0, 0, [])]
def kX12_freeAt : List (Option zi_I) := [some (.iconst 0, 1, 0, 0, []), some (.istore_n 2, 1, 0, 0, []), some (.iconst 0, 1, 0, 0, []), some (.istore_n 3, 1, 0, 0, []), some (.iload_n 3, 1, 0, 0, []), some (.aload_n 0, 1, 0, 0, []), some (.getfield 117, 3, 12, 4, []), none, none, some (.if_icmp .ge 39, 3, 48, 0, []), none, none, some (.iload_n 2, 1, 0, 0, []), some (.aload_n 0, 1, 0, 0, []), some (.getfield 32, 3, 12, 14, []), none, none, some (.iload_n 3, 1, 0, 0, []), some (.invokestatic 123, 3, 2413, 2, []), none, none, some (.ifCond .ge 18, 3, 39, 0, []), none, none, some (.aload_n 0, 1, 0, 0, []), some (.iload_n 3, 1, 0, 0, []), some (.invokevirtual 301, 3, 2416, 1, []), none, none, some (.iload_n 1, 1, 0, 0, []), some (.if_icmp .ne 9, 3, 39, 0, []), none, none, some (.iconst 1, 1, 0, 0, []), some (.iload_n 3, 1, 0, 0, []), some (.ishl, 1, 0, 0, []), some (.goto 4, 3, 40, 0, []), none, none, some (.iconst 0, 1, 0, 0, []), some (.ior, 1, 0, 0, []), some (.istore_n 2, 1, 0, 0, []), some (.iinc 3 1, 3, 0, 0, []), none, none, some (.goto (-41), 3, 4, 0, []), none, none, some (.iload_n 2, 1, 0, 0, []), some (.ireturn, 1, 0, 0, [])]
def kX12_voices : List (Option zi_I) := [some (.aload_n 0, 1, 0, 0, []), some (.iconst 0, 1, 0, 0, []), some (.putfield 99, 3, 12, 0, []), none, none, some (.aload_n 0, 1, 0, 0, []), some (.iload_n 1, 1, 0, 0, []), some (.iload_n 2, 1, 0, 0, []), some (.invokevirtual 368, 3, 2470, 2, []), none, none, some (.ifCond .ne 5, 3, 16, 0, []), none, none, some (.iconst (-1), 1, 0, 0, []), some (.ireturn, 1, 0, 0, []), some (.aload_n 0, 1, 0, 0, []), some (.iload_n 1, 1, 0, 0, []), some (.iload_n 2, 1, 0, 0, []), some (.aload_n 0, 1, 0, 0, []), some (.aload_n 0, 1, 0, 0, []), some (.getfield 32, 3, 12, 14, []), none, none, some (.iload_n 1, 1, 0, 0, []), some (.invokestatic 127, 3, 2412, 2, []), none, none, some (.invokevirtual 383, 3, 2479, 1, []), none, none, some (.invokevirtual 386, 3, 2478, 3, []), none, none, some (.istore_n 3, 1, 0, 0, []), some (.iload_n 3, 1, 0, 0, []), some (.ifCond .lt 18, 3, 54, 0, []), none, none, some (.aload_n 0, 1, 0, 0, []), some (.iconst 0, 1, 0, 0, []), some (.putfield 107, 3, 12, 1, []), none, none, some (.aload_n 0, 1, 0, 0, []), some (.aload_n 0, 1, 0, 0, []), some (.iload_n 3, 1, 0, 0, []), some (.invokevirtual 377, 3, 2476, 1, []), none, none, some (.i2l, 1, 0, 0, []), some (.invokevirtual 286, 3, 2407, 1, []), none, none, some (.iload_n 3, 1, 0, 0, []), some (.ireturn, 1, 0, 0, [])]
def kX12_puts : List (Option zi_I) := [some (.iconst 0, 1, 0, 0, []), some (.istore_n 1, 1, 0, 0, []), some (.iload_n 1, 1, 0, 0, []), some (.bipush 42, 2, 0, 0, []), none, some (.if_icmp .ge 21, 3, 26, 0, []), none, none, some (.aload_n 0, 1, 0, 0, []), some (.getfield 35, 3, 12, 15, []), none, none, some (.iload_n 1, 1, 0, 0, []), some (.aload_n 0, 1, 0, 0, []), some (.getfield 32, 3, 12, 14, []), none, none, some (.iload_n 1, 1, 0, 0, []), some (.iaload, 1, 0, 0, []), some (.iastore, 1, 0, 0, []), some (.iinc 1 1, 3, 0, 0, []), none, none, some (.goto (-21), 3, 2, 0, []), none, none, some (.return_, 1, 0, 0, [])]
def kX12_goesTo : List (Option zi_I) := [some (.aload_n 0, 1, 0, 0, []), some (.getfield 35, 3, 12, 15, []), none, none, some (.bipush 9, 2, 0, 0, []), none, some (.iaload, 1, 0, 0, []), some (.istore_n 3, 1, 0, 0, []), some (.aload_n 0, 1, 0, 0, []), some (.iconst 0, 1, 0, 0, []), some (.putfield 389, 3, 12, 38, []), none, none, some (.aload_n 0, 1, 0, 0, []), some (.getfield 35, 3, 12, 15, []), none, none, some (.iload_n 1, 1, 0, 0, []), some (.invokestatic 127, 3, 2412, 2, []), none, none, some (.iload_n 2, 1, 0, 0, []), some (.if_icmp .eq 61, 3, 83, 0, []), none, none, some (.aload_n 0, 1, 0, 0, []), some (.aload_n 0, 1, 0, 0, []), some (.aload_n 0, 1, 0, 0, []), some (.getfield 35, 3, 12, 15, []), none, none, some (.iload_n 1, 1, 0, 0, []), some (.iload_n 2, 1, 0, 0, []), some (.aload_n 0, 1, 0, 0, []), some (.getfield 35, 3, 12, 15, []), none, none, some (.iload_n 1, 1, 0, 0, []), some (.invokestatic 127, 3, 2412, 2, []), none, none, some (.if_icmp .le 7, 3, 48, 0, []), none, none, some (.iconst 1, 1, 0, 0, []), some (.goto 4, 3, 49, 0, []), none, none, some (.iconst 0, 1, 0, 0, []), some (.invokestatic 148, 3, 2405, 1, []), none, none, some (.invokevirtual 342, 3, 2461, 3, []), none, none, some (.putfield 392, 3, 12, 39, []), none, none, some (.aload_n 0, 1, 0, 0, []), some (.getfield 392, 3, 12, 39, []), none, none, some (.ifCond .ge 8, 3, 70, 0, []), none, none, some (.aload_n 0, 1, 0, 0, []), some (.getfield 392, 3, 12, 39, []), none, none, some (.ireturn, 1, 0, 0, []), some (.aload_n 0, 1, 0, 0, []), some (.dup, 1, 0, 0, []), some (.getfield 389, 3, 12, 38, []), none, none, some (.iconst 1, 1, 0, 0, []), some (.iadd, 1, 0, 0, []), some (.putfield 389, 3, 12, 38, []), none, none, some (.goto (-67), 3, 13, 0, []), none, none, some (.aload_n 0, 1, 0, 0, []), some (.getfield 35, 3, 12, 15, []), none, none, some (.bipush 9, 2, 0, 0, []), none, some (.iaload, 1, 0, 0, []), some (.iload_n 3, 1, 0, 0, []), some (.isub, 1, 0, 0, []), some (.ireturn, 1, 0, 0, [])]
def kX12_journey : List (Option zi_I) := [some (.aload_n 0, 1, 0, 0, []), some (.iconst 0, 1, 0, 0, []), some (.putfield 99, 3, 12, 0, []), none, none, some (.aload_n 0, 1, 0, 0, []), some (.iload_n 1, 1, 0, 0, []), some (.invokevirtual 304, 3, 2410, 1, []), none, none, some (.ifCond .eq 11, 3, 21, 0, []), none, none, some (.aload_n 0, 1, 0, 0, []), some (.iload_n 2, 1, 0, 0, []), some (.invokevirtual 395, 3, 2411, 1, []), none, none, some (.ifCond .ne 5, 3, 23, 0, []), none, none, some (.iconst (-1), 1, 0, 0, []), some (.ireturn, 1, 0, 0, []), some (.aload_n 0, 1, 0, 0, []), some (.invokevirtual 398, 3, 2481, 0, []), none, none, some (.aload_n 0, 1, 0, 0, []), some (.iload_n 1, 1, 0, 0, []), some (.iload_n 2, 1, 0, 0, []), some (.invokevirtual 401, 3, 2482, 2, []), none, none, some (.istore_n 3, 1, 0, 0, []), some (.aload_n 0, 1, 0, 0, []), some (.iconst 0, 1, 0, 0, []), some (.putfield 107, 3, 12, 1, []), none, none, some (.aload_n 0, 1, 0, 0, []), some (.aload_n 0, 1, 0, 0, []), some (.getfield 389, 3, 12, 38, []), none, none, some (.i2l, 1, 0, 0, []), some (.invokevirtual 286, 3, 2407, 1, []), none, none, some (.iload_n 3, 1, 0, 0, []), some (.ifCond .ge 50, 3, 99, 0, []), none, none, some (.aload_n 0, 1, 0, 0, []), some (.aload_n 0, 1, 0, 0, []), some (.getfield 35, 3, 12, 15, []), none, none, some (.iload_n 1, 1, 0, 0, []), some (.invokestatic 127, 3, 2412, 2, []), none, none, some (.iload_n 2, 1, 0, 0, []), some (.aload_n 0, 1, 0, 0, []), some (.getfield 35, 3, 12, 15, []), none, none, some (.iload_n 1, 1, 0, 0, []), some (.invokestatic 127, 3, 2412, 2, []), none, none, some (.if_icmp .ge 7, 3, 77, 0, []), none, none, some (.iconst 1, 1, 0, 0, []), some (.goto 4, 3, 78, 0, []), none, none, some (.iconst 0, 1, 0, 0, []), some (.invokestatic 148, 3, 2405, 1, []), none, none, some (.isub, 1, 0, 0, []), some (.i2l, 1, 0, 0, []), some (.invokevirtual 286, 3, 2407, 1, []), none, none, some (.aload_n 0, 1, 0, 0, []), some (.aload_n 0, 1, 0, 0, []), some (.getfield 392, 3, 12, 39, []), none, none, some (.ineg, 1, 0, 0, []), some (.i2l, 1, 0, 0, []), some (.invokevirtual 286, 3, 2407, 1, []), none, none, some (.bipush (-2), 2, 0, 0, []), none, some (.ireturn, 1, 0, 0, []), some (.aload_n 0, 1, 0, 0, []), some (.aload_n 0, 1, 0, 0, []), some (.getfield 32, 3, 12, 14, []), none, none, some (.bipush 8, 2, 0, 0, []), none, some (.iaload, 1, 0, 0, []), some (.aload_n 0, 1, 0, 0, []), some (.getfield 35, 3, 12, 15, []), none, none, some (.bipush 8, 2, 0, 0, []), none, some (.iaload, 1, 0, 0, []), some (.isub, 1, 0, 0, []), some (.i2l, 1, 0, 0, []), some (.invokevirtual 286, 3, 2407, 1, []), none, none, some (.aload_n 0, 1, 0, 0, []), some (.aload_n 0, 1, 0, 0, []), some (.aload_n 0, 1, 0, 0, []), some (.getfield 35, 3, 12, 15, []), none, none, some (.aload_n 0, 1, 0, 0, []), some (.aload_n 0, 1, 0, 0, []), some (.getfield 35, 3, 12, 15, []), none, none, some (.iload_n 1, 1, 0, 0, []), some (.invokevirtual 257, 3, 2415, 2, []), none, none, some (.invokevirtual 260, 3, 2441, 2, []), none, none, some (.i2l, 1, 0, 0, []), some (.invokevirtual 286, 3, 2407, 1, []), none, none, some (.iload_n 3, 1, 0, 0, []), some (.ireturn, 1, 0, 0, [])]
def kX12_singsAll : List (Option zi_I) := [some (.aload_n 0, 1, 0, 0, []), some (.getfield 32, 3, 12, 14, []), none, none, some (.iload_n 1, 1, 0, 0, []), some (.invokestatic 127, 3, 2412, 2, []), none, none, some (.istore 4, 2, 0, 0, []), none, some (.iload_n 2, 1, 0, 0, []), some (.iload 4, 2, 0, 0, []), none, some (.if_icmp .le 7, 3, 20, 0, []), none, none, some (.iconst 1, 1, 0, 0, []), some (.goto 4, 3, 21, 0, []), none, none, some (.iconst (-1), 1, 0, 0, []), some (.istore 5, 2, 0, 0, []), none, some (.aload_n 0, 1, 0, 0, []), some (.aload_n 0, 1, 0, 0, []), some (.getfield 32, 3, 12, 14, []), none, none, some (.iload_n 1, 1, 0, 0, []), some (.invokevirtual 257, 3, 2415, 2, []), none, none, some (.istore 6, 2, 0, 0, []), none, some (.iconst 1, 1, 0, 0, []), some (.istore 7, 2, 0, 0, []), none, some (.iload 4, 2, 0, 0, []), none, some (.istore 8, 2, 0, 0, []), none, some (.iload 8, 2, 0, 0, []), none, some (.iload_n 2, 1, 0, 0, []), some (.if_icmp .eq 57, 3, 101, 0, []), none, none, some (.iload 7, 2, 0, 0, []), none, some (.ifCond .eq 52, 3, 101, 0, []), none, none, some (.iload 6, 2, 0, 0, []), none, some (.iload_n 3, 1, 0, 0, []), some (.aload_n 0, 1, 0, 0, []), some (.iload 8, 2, 0, 0, []), none, some (.invokevirtual 383, 3, 2479, 1, []), none, none, some (.iand, 1, 0, 0, []), some (.ior, 1, 0, 0, []), some (.istore 6, 2, 0, 0, []), none, some (.aload_n 0, 1, 0, 0, []), some (.aload_n 0, 1, 0, 0, []), some (.getfield 32, 3, 12, 14, []), none, none, some (.iload 6, 2, 0, 0, []), none, some (.iload 5, 2, 0, 0, []), none, some (.ifCond .le 8, 3, 82, 0, []), none, none, some (.iload 8, 2, 0, 0, []), none, some (.goto 7, 3, 86, 0, []), none, none, some (.iload 8, 2, 0, 0, []), none, some (.iconst 1, 1, 0, 0, []), some (.isub, 1, 0, 0, []), some (.invokevirtual 316, 3, 2446, 3, []), none, none, some (.istore 7, 2, 0, 0, []), none, some (.iload 8, 2, 0, 0, []), none, some (.iload 5, 2, 0, 0, []), none, some (.iadd, 1, 0, 0, []), some (.istore 8, 2, 0, 0, []), none, some (.goto (-57), 3, 41, 0, []), none, none, some (.iload 7, 2, 0, 0, []), none, some (.ireturn, 1, 0, 0, [])]
def kX12_hires : List (Option zi_I) := [some (.aload_n 0, 1, 0, 0, []), some (.iconst 0, 1, 0, 0, []), some (.putfield 99, 3, 12, 0, []), none, none, some (.aload_n 0, 1, 0, 0, []), some (.iload_n 1, 1, 0, 0, []), some (.invokevirtual 304, 3, 2410, 1, []), none, none, some (.ifCond .eq 11, 3, 21, 0, []), none, none, some (.aload_n 0, 1, 0, 0, []), some (.iload_n 2, 1, 0, 0, []), some (.invokevirtual 395, 3, 2411, 1, []), none, none, some (.ifCond .ne 5, 3, 23, 0, []), none, none, some (.iconst (-1), 1, 0, 0, []), some (.ireturn, 1, 0, 0, []), some (.aload_n 0, 1, 0, 0, []), some (.getfield 32, 3, 12, 14, []), none, none, some (.iload_n 1, 1, 0, 0, []), some (.invokestatic 127, 3, 2412, 2, []), none, none, some (.istore_n 3, 1, 0, 0, []), some (.iconst 0, 1, 0, 0, []), some (.istore 4, 2, 0, 0, []), none, some (.iload_n 3, 1, 0, 0, []), some (.iload_n 2, 1, 0, 0, []), some (.invokestatic 139, 3, 9002, 0, []), none, none, some (.istore 5, 2, 0, 0, []), none, some (.iload 5, 2, 0, 0, []), none, some (.iload_n 3, 1, 0, 0, []), some (.iload_n 2, 1, 0, 0, []), some (.invokestatic 247, 3, 9001, 0, []), none, none, some (.if_icmp .gt 30, 3, 79, 0, []), none, none, some (.iload 4, 2, 0, 0, []), none, some (.iload 5, 2, 0, 0, []), none, some (.iload_n 2, 1, 0, 0, []), some (.if_icmp .ne 7, 3, 64, 0, []), none, none, some (.iconst 0, 1, 0, 0, []), some (.goto 9, 3, 70, 0, []), none, none, some (.aload_n 0, 1, 0, 0, []), some (.iload 5, 2, 0, 0, []), none, some (.invokevirtual 383, 3, 2479, 1, []), none, none, some (.ior, 1, 0, 0, []), some (.istore 4, 2, 0, 0, []), none, some (.iinc 5 1, 3, 0, 0, []), none, none, some (.goto (-34), 3, 42, 0, []), none, none, some (.bipush (-2), 2, 0, 0, []), none, some (.istore 5, 2, 0, 0, []), none, some (.iconst 0, 1, 0, 0, []), some (.istore 6, 2, 0, 0, []), none, some (.iload 6, 2, 0, 0, []), none, some (.iload 4, 2, 0, 0, []), none, some (.if_icmp .gt 50, 3, 140, 0, []), none, none, some (.iload 6, 2, 0, 0, []), none, some (.iload 4, 2, 0, 0, []), none, some (.iconst (-1), 1, 0, 0, []), some (.ixor, 1, 0, 0, []), some (.iand, 1, 0, 0, []), some (.ifCond .ne 30, 3, 130, 0, []), none, none, some (.aload_n 0, 1, 0, 0, []), some (.iload 6, 2, 0, 0, []), none, some (.iload 5, 2, 0, 0, []), none, some (.invokevirtual 380, 3, 2477, 2, []), none, none, some (.ifCond .eq 19, 3, 130, 0, []), none, none, some (.aload_n 0, 1, 0, 0, []), some (.iload_n 1, 1, 0, 0, []), some (.iload_n 2, 1, 0, 0, []), some (.iload 6, 2, 0, 0, []), none, some (.invokevirtual 404, 3, 2484, 3, []), none, none, some (.ifCond .eq 8, 3, 130, 0, []), none, none, some (.iload 6, 2, 0, 0, []), none, some (.goto 5, 3, 132, 0, []), none, none, some (.iload 5, 2, 0, 0, []), none, some (.istore 5, 2, 0, 0, []), none, some (.iinc 6 1, 3, 0, 0, []), none, none, some (.goto (-51), 3, 86, 0, []), none, none, some (.iload 5, 2, 0, 0, []), none, some (.ifCond .lt 19, 3, 161, 0, []), none, none, some (.aload_n 0, 1, 0, 0, []), some (.iconst 0, 1, 0, 0, []), some (.putfield 107, 3, 12, 1, []), none, none, some (.aload_n 0, 1, 0, 0, []), some (.aload_n 0, 1, 0, 0, []), some (.iload 5, 2, 0, 0, []), none, some (.invokevirtual 377, 3, 2476, 1, []), none, none, some (.i2l, 1, 0, 0, []), some (.invokevirtual 286, 3, 2407, 1, []), none, none, some (.iload 5, 2, 0, 0, []), none, some (.ireturn, 1, 0, 0, [])]
def kX12_rested : List (Option zi_I) := [some (.aload_n 0, 1, 0, 0, []), some (.iconst 0, 1, 0, 0, []), some (.putfield 99, 3, 12, 0, []), none, none, some (.aload_n 0, 1, 0, 0, []), some (.iload_n 1, 1, 0, 0, []), some (.invokevirtual 304, 3, 2410, 1, []), none, none, some (.ifCond .eq 11, 3, 21, 0, []), none, none, some (.aload_n 0, 1, 0, 0, []), some (.iload_n 2, 1, 0, 0, []), some (.invokevirtual 395, 3, 2411, 1, []), none, none, some (.ifCond .ne 5, 3, 23, 0, []), none, none, some (.iconst (-1), 1, 0, 0, []), some (.ireturn, 1, 0, 0, []), some (.iconst 0, 1, 0, 0, []), some (.istore_n 3, 1, 0, 0, []), some (.iload_n 3, 1, 0, 0, []), some (.bipush 90, 2, 0, 0, []), none, some (.if_icmp .gt 49, 3, 77, 0, []), none, none, some (.aload_n 0, 1, 0, 0, []), some (.invokevirtual 398, 3, 2481, 0, []), none, none, some (.aload_n 0, 1, 0, 0, []), some (.aload_n 0, 1, 0, 0, []), some (.getfield 35, 3, 12, 15, []), none, none, some (.iload_n 3, 1, 0, 0, []), some (.invokevirtual 350, 3, 2462, 2, []), none, none, some (.aload_n 0, 1, 0, 0, []), some (.iload_n 1, 1, 0, 0, []), some (.iload_n 2, 1, 0, 0, []), some (.invokevirtual 401, 3, 2482, 2, []), none, none, some (.istore 4, 2, 0, 0, []), none, some (.iload 4, 2, 0, 0, []), none, some (.ifCond .lt 17, 3, 71, 0, []), none, none, some (.aload_n 0, 1, 0, 0, []), some (.iconst 0, 1, 0, 0, []), some (.putfield 107, 3, 12, 1, []), none, none, some (.aload_n 0, 1, 0, 0, []), some (.iload 4, 2, 0, 0, []), none, some (.i2l, 1, 0, 0, []), some (.invokevirtual 286, 3, 2407, 1, []), none, none, some (.iload_n 3, 1, 0, 0, []), some (.ireturn, 1, 0, 0, []), some (.iinc 3 10, 3, 0, 0, []), none, none, some (.goto (-49), 3, 25, 0, []), none, none, some (.bipush (-2), 2, 0, 0, []), none, some (.ireturn, 1, 0, 0, [])]
def kX12_spot : List (Option zi_I) := [some (.bipush 15, 2, 0, 0, []), none, some (.iload_n 0, 1, 0, 0, []), some (.imul, 1, 0, 0, []), some (.iload_n 1, 1, 0, 0, []), some (.iadd, 1, 0, 0, []), some (.iconst 2, 1, 0, 0, []), some (.imul, 1, 0, 0, []), some (.iload_n 2, 1, 0, 0, []), some (.iadd, 1, 0, 0, []), some (.ireturn, 1, 0, 0, [])]
def kX12_costOf : List (Option zi_I) := [some (.bipush 100, 2, 0, 0, []), none, some (.iload_n 0, 1, 0, 0, []), some (.iload_n 1, 1, 0, 0, []), some (.invokestatic 319, 3, 2459, 2, []), none, none, some (.imul, 1, 0, 0, []), some (.iload_n 0, 1, 0, 0, []), some (.iload_n 1, 1, 0, 0, []), some (.if_icmp .ne 7, 3, 17, 0, []), none, none, some (.iconst 1, 1, 0, 0, []), some (.goto 4, 3, 18, 0, []), none, none, some (.iconst 0, 1, 0, 0, []), some (.invokestatic 148, 3, 2405, 1, []), none, none, some (.iadd, 1, 0, 0, []), some (.ireturn, 1, 0, 0, [])]
def kX12_yetBy : List (Option zi_I) := [some (.iload 4, 2, 0, 0, []), none, some (.iconst 1, 1, 0, 0, []), some (.if_icmp .ne 14, 3, 17, 0, []), none, none, some (.iload_n 1, 1, 0, 0, []), some (.aload_n 0, 1, 0, 0, []), some (.getfield 407, 3, 12, 42, []), none, none, some (.if_icmp .ne 18, 3, 29, 0, []), none, none, some (.goto 11, 3, 25, 0, []), none, none, some (.iload_n 2, 1, 0, 0, []), some (.aload_n 0, 1, 0, 0, []), some (.getfield 410, 3, 12, 43, []), none, none, some (.if_icmp .ne 7, 3, 29, 0, []), none, none, some (.ldc_w 413, 3, 1000000, 0, []), none, none, some (.ireturn, 1, 0, 0, []), some (.iload_n 3, 1, 0, 0, []), some (.iload 4, 2, 0, 0, []), none, some (.invokestatic 414, 3, 2488, 2, []), none, none, some (.aload_n 0, 1, 0, 0, []), some (.getfield 80, 3, 12, 44, []), none, none, some (.iload_n 1, 1, 0, 0, []), some (.iload 4, 2, 0, 0, []), none, some (.iadd, 1, 0, 0, []), some (.iload_n 2, 1, 0, 0, []), some (.iconst 1, 1, 0, 0, []), some (.iadd, 1, 0, 0, []), some (.iload 4, 2, 0, 0, []), none, some (.isub, 1, 0, 0, []), some (.iload 4, 2, 0, 0, []), none, some (.invokestatic 417, 3, 2487, 3, []), none, none, some (.iaload, 1, 0, 0, []), some (.iadd, 1, 0, 0, []), some (.ireturn, 1, 0, 0, [])]
def kX12_laysQueue : List (Option zi_I) := [some (.aload_n 0, 1, 0, 0, []), some (.getfield 407, 3, 12, 42, []), none, none, some (.istore_n 1, 1, 0, 0, []), some (.iload_n 1, 1, 0, 0, []), some (.ifCond .lt 91, 3, 97, 0, []), none, none, some (.aload_n 0, 1, 0, 0, []), some (.getfield 410, 3, 12, 43, []), none, none, some (.istore_n 2, 1, 0, 0, []), some (.iload_n 2, 1, 0, 0, []), some (.ifCond .lt 76, 3, 91, 0, []), none, none, some (.iconst 0, 1, 0, 0, []), some (.istore_n 3, 1, 0, 0, []), some (.iload_n 3, 1, 0, 0, []), some (.iconst 2, 1, 0, 0, []), some (.if_icmp .ge 63, 3, 85, 0, []), none, none, some (.aload_n 0, 1, 0, 0, []), some (.iload_n 1, 1, 0, 0, []), some (.iload_n 2, 1, 0, 0, []), some (.iload_n 3, 1, 0, 0, []), some (.iconst 0, 1, 0, 0, []), some (.invokevirtual 420, 3, 2489, 4, []), none, none, some (.aload_n 0, 1, 0, 0, []), some (.iload_n 1, 1, 0, 0, []), some (.iload_n 2, 1, 0, 0, []), some (.iload_n 3, 1, 0, 0, []), some (.iconst 1, 1, 0, 0, []), some (.invokevirtual 420, 3, 2489, 4, []), none, none, some (.invokestatic 139, 3, 9002, 0, []), none, none, some (.istore 4, 2, 0, 0, []), none, some (.aload_n 0, 1, 0, 0, []), some (.getfield 80, 3, 12, 44, []), none, none, some (.iload_n 1, 1, 0, 0, []), some (.iload_n 2, 1, 0, 0, []), some (.iload_n 3, 1, 0, 0, []), some (.invokestatic 417, 3, 2487, 3, []), none, none, some (.iload_n 1, 1, 0, 0, []), some (.aload_n 0, 1, 0, 0, []), some (.getfield 407, 3, 12, 42, []), none, none, some (.if_icmp .ne 15, 3, 76, 0, []), none, none, some (.iload_n 2, 1, 0, 0, []), some (.aload_n 0, 1, 0, 0, []), some (.getfield 410, 3, 12, 43, []), none, none, some (.if_icmp .ne 7, 3, 76, 0, []), none, none, some (.iconst 0, 1, 0, 0, []), some (.goto 5, 3, 78, 0, []), none, none, some (.iload 4, 2, 0, 0, []), none, some (.iastore, 1, 0, 0, []), some (.iinc 3 1, 3, 0, 0, []), none, none, some (.goto (-62), 3, 20, 0, []), none, none, some (.iinc 2 (-1), 3, 0, 0, []), none, none, some (.goto (-74), 3, 14, 0, []), none, none, some (.iinc 1 (-1), 3, 0, 0, []), none, none, some (.goto (-89), 3, 5, 0, []), none, none, some (.return_, 1, 0, 0, [])]
def kX12_queue : List (Option zi_I) := [some (.aload_n 0, 1, 0, 0, []), some (.iconst 0, 1, 0, 0, []), some (.putfield 99, 3, 12, 0, []), none, none, some (.aload_n 0, 1, 0, 0, []), some (.bipush 80, 2, 0, 0, []), none, some (.invokevirtual 189, 3, 2419, 1, []), none, none, some (.pop, 1, 0, 0, []), some (.aload_n 0, 1, 0, 0, []), some (.iload_n 1, 1, 0, 0, []), some (.invokevirtual 290, 3, 2408, 1, []), none, none, some (.ifCond .ne 5, 3, 22, 0, []), none, none, some (.iconst (-1), 1, 0, 0, []), some (.ireturn, 1, 0, 0, []), some (.aload_n 0, 1, 0, 0, []), some (.iconst 0, 1, 0, 0, []), some (.putfield 407, 3, 12, 42, []), none, none, some (.aload_n 0, 1, 0, 0, []), some (.iconst 0, 1, 0, 0, []), some (.putfield 410, 3, 12, 43, []), none, none, some (.iconst 1, 1, 0, 0, []), some (.istore_n 2, 1, 0, 0, []), some (.iload_n 2, 1, 0, 0, []), some (.ifCond .eq 113, 3, 148, 0, []), none, none, some (.aload_n 0, 1, 0, 0, []), some (.getfield 407, 3, 12, 42, []), none, none, some (.aload_n 0, 1, 0, 0, []), some (.getfield 410, 3, 12, 43, []), none, none, some (.iadd, 1, 0, 0, []), some (.bipush 14, 2, 0, 0, []), none, some (.if_icmp .ge 13, 3, 62, 0, []), none, none, some (.aload_n 0, 1, 0, 0, []), some (.ldc_w 424, 3, 10, 1, []), none, none, some (.invokevirtual 166, 3, 2422, 1, []), none, none, some (.goto 4, 3, 63, 0, []), none, none, some (.iconst (-1), 1, 0, 0, []), some (.istore_n 3, 1, 0, 0, []), some (.iload_n 3, 1, 0, 0, []), some (.ifCond .lt 7, 3, 72, 0, []), none, none, some (.iconst 1, 1, 0, 0, []), some (.goto 4, 3, 73, 0, []), none, none, some (.iconst 0, 1, 0, 0, []), some (.istore_n 2, 1, 0, 0, []), some (.iload_n 3, 1, 0, 0, []), some (.iconst 1, 1, 0, 0, []), some (.if_icmp .ne 29, 3, 105, 0, []), none, none, some (.aload_n 0, 1, 0, 0, []), some (.getfield 74, 3, 12, 40, []), none, none, some (.aload_n 0, 1, 0, 0, []), some (.getfield 407, 3, 12, 42, []), none, none, some (.aload_n 0, 1, 0, 0, []), some (.getfield 133, 3, 12, 18, []), none, none, some (.iastore, 1, 0, 0, []), some (.aload_n 0, 1, 0, 0, []), some (.dup, 1, 0, 0, []), some (.getfield 407, 3, 12, 42, []), none, none, some (.iconst 1, 1, 0, 0, []), some (.iadd, 1, 0, 0, []), some (.putfield 407, 3, 12, 42, []), none, none, some (.goto 30, 3, 132, 0, []), none, none, some (.iload_n 3, 1, 0, 0, []), some (.ifCond .ne 26, 3, 132, 0, []), none, none, some (.aload_n 0, 1, 0, 0, []), some (.getfield 77, 3, 12, 41, []), none, none, some (.aload_n 0, 1, 0, 0, []), some (.getfield 410, 3, 12, 43, []), none, none, some (.aload_n 0, 1, 0, 0, []), some (.getfield 133, 3, 12, 18, []), none, none, some (.iastore, 1, 0, 0, []), some (.aload_n 0, 1, 0, 0, []), some (.dup, 1, 0, 0, []), some (.getfield 410, 3, 12, 43, []), none, none, some (.iconst 1, 1, 0, 0, []), some (.iadd, 1, 0, 0, []), some (.putfield 410, 3, 12, 43, []), none, none, some (.aload_n 0, 1, 0, 0, []), some (.dup, 1, 0, 0, []), some (.getfield 133, 3, 12, 18, []), none, none, some (.iload_n 2, 1, 0, 0, []), some (.invokestatic 148, 3, 2405, 1, []), none, none, some (.iadd, 1, 0, 0, []), some (.putfield 133, 3, 12, 18, []), none, none, some (.goto (-111), 3, 34, 0, []), none, none, some (.aload_n 0, 1, 0, 0, []), some (.getfield 133, 3, 12, 18, []), none, none, some (.ifCond .eq 14, 3, 166, 0, []), none, none, some (.aload_n 0, 1, 0, 0, []), some (.getfield 133, 3, 12, 18, []), none, none, some (.aload_n 0, 1, 0, 0, []), some (.getfield 145, 3, 12, 19, []), none, none, some (.if_icmp .ge 11, 3, 174, 0, []), none, none, some (.bipush (-2), 2, 0, 0, []), none, some (.aload_n 0, 1, 0, 0, []), some (.getfield 133, 3, 12, 18, []), none, none, some (.isub, 1, 0, 0, []), some (.ireturn, 1, 0, 0, []), some (.aload_n 0, 1, 0, 0, []), some (.invokevirtual 426, 3, 2490, 0, []), none, none, some (.aload_n 0, 1, 0, 0, []), some (.getfield 80, 3, 12, 44, []), none, none, some (.iconst 0, 1, 0, 0, []), some (.iconst 0, 1, 0, 0, []), some (.aload_n 0, 1, 0, 0, []), some (.getfield 32, 3, 12, 14, []), none, none, some (.iload_n 1, 1, 0, 0, []), some (.iaload, 1, 0, 0, []), some (.invokestatic 417, 3, 2487, 3, []), none, none, some (.iaload, 1, 0, 0, []), some (.istore_n 3, 1, 0, 0, []), some (.aload_n 0, 1, 0, 0, []), some (.iconst 0, 1, 0, 0, []), some (.putfield 107, 3, 12, 1, []), none, none, some (.aload_n 0, 1, 0, 0, []), some (.iload_n 3, 1, 0, 0, []), some (.bipush 100, 2, 0, 0, []), none, some (.irem, 1, 0, 0, []), some (.i2l, 1, 0, 0, []), some (.invokevirtual 286, 3, 2407, 1, []), none, none, some (.iconst 0, 1, 0, 0, []), some (.istore 4, 2, 0, 0, []), none, some (.iconst 0, 1, 0, 0, []), some (.istore 5, 2, 0, 0, []), none, some (.aload_n 0, 1, 0, 0, []), some (.getfield 32, 3, 12, 14, []), none, none, some (.iload_n 1, 1, 0, 0, []), some (.iaload, 1, 0, 0, []), some (.istore 6, 2, 0, 0, []), none, some (.iload 4, 2, 0, 0, []), none, some (.aload_n 0, 1, 0, 0, []), some (.getfield 407, 3, 12, 42, []), none, none, some (.if_icmp .lt 12, 3, 241, 0, []), none, none, some (.iload 5, 2, 0, 0, []), none, some (.aload_n 0, 1, 0, 0, []), some (.getfield 410, 3, 12, 43, []), none, none, some (.if_icmp .ge 173, 3, 411, 0, []), none, none, some (.aload_n 0, 1, 0, 0, []), some (.iload 4, 2, 0, 0, []), none, some (.iload 5, 2, 0, 0, []), none, some (.iload 6, 2, 0, 0, []), none, some (.iconst 1, 1, 0, 0, []), some (.invokevirtual 420, 3, 2489, 4, []), none, none, some (.aload_n 0, 1, 0, 0, []), some (.getfield 80, 3, 12, 44, []), none, none, some (.iload 4, 2, 0, 0, []), none, some (.iload 5, 2, 0, 0, []), none, some (.iload 6, 2, 0, 0, []), none, some (.invokestatic 417, 3, 2487, 3, []), none, none, some (.iaload, 1, 0, 0, []), some (.if_icmp .ne 7, 3, 273, 0, []), none, none, some (.iconst 1, 1, 0, 0, []), some (.goto 4, 3, 274, 0, []), none, none, some (.iconst 0, 1, 0, 0, []), some (.istore 7, 2, 0, 0, []), none, some (.aload_n 0, 1, 0, 0, []), some (.iload 4, 2, 0, 0, []), none, some (.iload 5, 2, 0, 0, []), none, some (.iload 6, 2, 0, 0, []), none, some (.iconst 0, 1, 0, 0, []), some (.invokevirtual 420, 3, 2489, 4, []), none, none, some (.aload_n 0, 1, 0, 0, []), some (.getfield 80, 3, 12, 44, []), none, none, some (.iload 4, 2, 0, 0, []), none, some (.iload 5, 2, 0, 0, []), none, some (.iload 6, 2, 0, 0, []), none, some (.invokestatic 417, 3, 2487, 3, []), none, none, some (.iaload, 1, 0, 0, []), some (.if_icmp .ne 7, 3, 308, 0, []), none, none, some (.iconst 1, 1, 0, 0, []), some (.goto 4, 3, 309, 0, []), none, none, some (.iconst 0, 1, 0, 0, []), some (.istore 8, 2, 0, 0, []), none, some (.iload 7, 2, 0, 0, []), none, some (.ifCond .eq 29, 3, 342, 0, []), none, none, some (.iload 8, 2, 0, 0, []), none, some (.ifCond .eq 20, 3, 338, 0, []), none, none, some (.aload_n 0, 1, 0, 0, []), some (.getfield 74, 3, 12, 40, []), none, none, some (.iload 4, 2, 0, 0, []), none, some (.iaload, 1, 0, 0, []), some (.aload_n 0, 1, 0, 0, []), some (.getfield 77, 3, 12, 41, []), none, none, some (.iload 5, 2, 0, 0, []), none, some (.iaload, 1, 0, 0, []), some (.if_icmp .ge 7, 3, 342, 0, []), none, none, some (.iconst 1, 1, 0, 0, []), some (.goto 4, 3, 343, 0, []), none, none, some (.iconst 0, 1, 0, 0, []), some (.istore 9, 2, 0, 0, []), none, some (.aload_n 0, 1, 0, 0, []), some (.iload 9, 2, 0, 0, []), none, some (.ifCond .eq 14, 3, 362, 0, []), none, none, some (.aload_n 0, 1, 0, 0, []), some (.getfield 74, 3, 12, 40, []), none, none, some (.iload 4, 2, 0, 0, []), none, some (.iaload, 1, 0, 0, []), some (.i2l, 1, 0, 0, []), some (.goto 11, 3, 370, 0, []), none, none, some (.aload_n 0, 1, 0, 0, []), some (.getfield 77, 3, 12, 41, []), none, none, some (.iload 5, 2, 0, 0, []), none, some (.iaload, 1, 0, 0, []), some (.i2l, 1, 0, 0, []), some (.invokevirtual 286, 3, 2407, 1, []), none, none, some (.iload 4, 2, 0, 0, []), none, some (.iload 9, 2, 0, 0, []), none, some (.invokestatic 148, 3, 2405, 1, []), none, none, some (.iadd, 1, 0, 0, []), some (.istore 4, 2, 0, 0, []), none, some (.iload 5, 2, 0, 0, []), none, some (.iload 9, 2, 0, 0, []), none, some (.ifCond .ne 7, 3, 394, 0, []), none, none, some (.iconst 1, 1, 0, 0, []), some (.goto 4, 3, 395, 0, []), none, none, some (.iconst 0, 1, 0, 0, []), some (.invokestatic 148, 3, 2405, 1, []), none, none, some (.iadd, 1, 0, 0, []), some (.istore 5, 2, 0, 0, []), none, some (.iload 9, 2, 0, 0, []), none, some (.invokestatic 148, 3, 2405, 1, []), none, none, some (.istore 6, 2, 0, 0, []), none, some (.goto (-185), 3, 223, 0, []), none, none, some (.iload_n 3, 1, 0, 0, []), some (.bipush 100, 2, 0, 0, []), none, some (.idiv, 1, 0, 0, []), some (.ireturn, 1, 0, 0, [])]
def kX12_passing : List (Option zi_I) := [some (.iconst 0, 1, 0, 0, []), some (.istore_n 1, 1, 0, 0, []), some (.iconst 0, 1, 0, 0, []), some (.istore_n 2, 1, 0, 0, []), some (.iload_n 2, 1, 0, 0, []), some (.aload_n 0, 1, 0, 0, []), some (.getfield 120, 3, 12, 5, []), none, none, some (.if_icmp .ge 45, 3, 54, 0, []), none, none, some (.iload_n 1, 1, 0, 0, []), some (.aload_n 0, 1, 0, 0, []), some (.aload_n 0, 1, 0, 0, []), some (.getfield 32, 3, 12, 14, []), none, none, some (.iload_n 2, 1, 0, 0, []), some (.iconst 0, 1, 0, 0, []), some (.invokevirtual 322, 3, 2460, 3, []), none, none, some (.ifCond .eq 16, 3, 39, 0, []), none, none, some (.aload_n 0, 1, 0, 0, []), some (.aload_n 0, 1, 0, 0, []), some (.getfield 32, 3, 12, 14, []), none, none, some (.iload_n 2, 1, 0, 0, []), some (.iconst 1, 1, 0, 0, []), some (.invokevirtual 322, 3, 2460, 3, []), none, none, some (.ifCond .ne 9, 3, 45, 0, []), none, none, some (.iconst 1, 1, 0, 0, []), some (.iload_n 2, 1, 0, 0, []), some (.ishl, 1, 0, 0, []), some (.goto 4, 3, 46, 0, []), none, none, some (.iconst 0, 1, 0, 0, []), some (.ior, 1, 0, 0, []), some (.istore_n 1, 1, 0, 0, []), some (.iinc 2 1, 3, 0, 0, []), none, none, some (.goto (-47), 3, 4, 0, []), none, none, some (.iload_n 1, 1, 0, 0, []), some (.ireturn, 1, 0, 0, [])]
def kX12_jams : List (Option zi_I) := [some (.aload_n 0, 1, 0, 0, []), some (.iconst 0, 1, 0, 0, []), some (.putfield 99, 3, 12, 0, []), none, none, some (.aload_n 0, 1, 0, 0, []), some (.getfield 271, 3, 12, 6, []), none, none, some (.istore_n 1, 1, 0, 0, []), some (.aload_n 0, 1, 0, 0, []), some (.invokevirtual 429, 3, 2492, 0, []), none, none, some (.istore_n 2, 1, 0, 0, []), some (.iconst (-1), 1, 0, 0, []), some (.istore_n 3, 1, 0, 0, []), some (.iconst 0, 1, 0, 0, []), some (.istore 4, 2, 0, 0, []), none, some (.iconst 0, 1, 0, 0, []), some (.istore 5, 2, 0, 0, []), none, some (.iconst 0, 1, 0, 0, []), some (.istore 6, 2, 0, 0, []), none, some (.iload 6, 2, 0, 0, []), none, some (.bipush 26, 2, 0, 0, []), none, some (.if_icmp .ge 73, 3, 103, 0, []), none, none, some (.iload 6, 2, 0, 0, []), none, some (.iconst 1, 1, 0, 0, []), some (.iadd, 1, 0, 0, []), some (.istore 7, 2, 0, 0, []), none, some (.iload 7, 2, 0, 0, []), none, some (.bipush 26, 2, 0, 0, []), none, some (.if_icmp .ge 54, 3, 97, 0, []), none, none, some (.aload_n 0, 1, 0, 0, []), some (.iload_n 1, 1, 0, 0, []), some (.iconst 1, 1, 0, 0, []), some (.iload 6, 2, 0, 0, []), none, some (.ishl, 1, 0, 0, []), some (.ior, 1, 0, 0, []), some (.iconst 1, 1, 0, 0, []), some (.iload 7, 2, 0, 0, []), none, some (.ishl, 1, 0, 0, []), some (.ior, 1, 0, 0, []), some (.putfield 271, 3, 12, 6, []), none, none, some (.iload_n 2, 1, 0, 0, []), some (.aload_n 0, 1, 0, 0, []), some (.invokevirtual 429, 3, 2492, 0, []), none, none, some (.iconst (-1), 1, 0, 0, []), some (.ixor, 1, 0, 0, []), some (.iand, 1, 0, 0, []), some (.invokestatic 263, 3, 2800, 1, []), none, none, some (.istore 8, 2, 0, 0, []), none, some (.iload 8, 2, 0, 0, []), none, some (.iload_n 3, 1, 0, 0, []), some (.if_icmp .le 14, 3, 91, 0, []), none, none, some (.iload 8, 2, 0, 0, []), none, some (.istore_n 3, 1, 0, 0, []), some (.iload 6, 2, 0, 0, []), none, some (.istore 4, 2, 0, 0, []), none, some (.iload 7, 2, 0, 0, []), none, some (.istore 5, 2, 0, 0, []), none, some (.iinc 7 1, 3, 0, 0, []), none, none, some (.goto (-55), 3, 39, 0, []), none, none, some (.iinc 6 1, 3, 0, 0, []), none, none, some (.goto (-74), 3, 26, 0, []), none, none, some (.aload_n 0, 1, 0, 0, []), some (.iload_n 1, 1, 0, 0, []), some (.putfield 271, 3, 12, 6, []), none, none, some (.aload_n 0, 1, 0, 0, []), some (.iconst 0, 1, 0, 0, []), some (.putfield 107, 3, 12, 1, []), none, none, some (.aload_n 0, 1, 0, 0, []), some (.iload 4, 2, 0, 0, []), none, some (.i2l, 1, 0, 0, []), some (.invokevirtual 286, 3, 2407, 1, []), none, none, some (.aload_n 0, 1, 0, 0, []), some (.iload 5, 2, 0, 0, []), none, some (.i2l, 1, 0, 0, []), some (.invokevirtual 286, 3, 2407, 1, []), none, none, some (.iload_n 3, 1, 0, 0, []), some (.ireturn, 1, 0, 0, [])]
def kX12_heard : List (Option zi_I) := [some (.aload_n 0, 1, 0, 0, []), some (.iconst 0, 1, 0, 0, []), some (.putfield 99, 3, 12, 0, []), none, none, some (.iload_n 1, 1, 0, 0, []), some (.i2l, 1, 0, 0, []), some (.lconst 0, 1, 0, 0, []), some (.ldc2_w 371, 3, 25, 0, []), none, none, some (.invokestatic 113, 3, 2403, 3, []), none, none, some (.ifCond .eq 22, 3, 36, 0, []), none, none, some (.iload_n 2, 1, 0, 0, []), some (.i2l, 1, 0, 0, []), some (.lconst 0, 1, 0, 0, []), some (.lconst 1, 1, 0, 0, []), some (.invokestatic 113, 3, 2403, 3, []), none, none, some (.ifCond .eq 12, 3, 36, 0, []), none, none, some (.aload_n 0, 1, 0, 0, []), some (.getfield 432, 3, 12, 45, []), none, none, some (.bipush 12, 2, 0, 0, []), none, some (.if_icmp .ne 5, 3, 38, 0, []), none, none, some (.iconst (-1), 1, 0, 0, []), some (.ireturn, 1, 0, 0, []), some (.aload_n 0, 1, 0, 0, []), some (.getfield 83, 3, 12, 46, []), none, none, some (.aload_n 0, 1, 0, 0, []), some (.getfield 432, 3, 12, 45, []), none, none, some (.iload_n 1, 1, 0, 0, []), some (.iastore, 1, 0, 0, []), some (.aload_n 0, 1, 0, 0, []), some (.getfield 86, 3, 12, 47, []), none, none, some (.aload_n 0, 1, 0, 0, []), some (.getfield 432, 3, 12, 45, []), none, none, some (.iload_n 2, 1, 0, 0, []), some (.iastore, 1, 0, 0, []), some (.aload_n 0, 1, 0, 0, []), some (.dup, 1, 0, 0, []), some (.getfield 432, 3, 12, 45, []), none, none, some (.iconst 1, 1, 0, 0, []), some (.iadd, 1, 0, 0, []), some (.putfield 432, 3, 12, 45, []), none, none, some (.aload_n 0, 1, 0, 0, []), some (.getfield 432, 3, 12, 45, []), none, none, some (.ireturn, 1, 0, 0, [])]
def kX12_forget : List (Option zi_I) := [some (.aload_n 0, 1, 0, 0, []), some (.iconst 0, 1, 0, 0, []), some (.putfield 99, 3, 12, 0, []), none, none, some (.aload_n 0, 1, 0, 0, []), some (.getfield 432, 3, 12, 45, []), none, none, some (.istore_n 1, 1, 0, 0, []), some (.aload_n 0, 1, 0, 0, []), some (.iconst 0, 1, 0, 0, []), some (.putfield 432, 3, 12, 45, []), none, none, some (.iload_n 1, 1, 0, 0, []), some (.ireturn, 1, 0, 0, [])]
def kX12_singersOf : List (Option zi_I) := [some (.iconst 0, 1, 0, 0, []), some (.istore_n 2, 1, 0, 0, []), some (.iconst 0, 1, 0, 0, []), some (.istore_n 3, 1, 0, 0, []), some (.iload_n 3, 1, 0, 0, []), some (.aload_n 0, 1, 0, 0, []), some (.getfield 117, 3, 12, 4, []), none, none, some (.if_icmp .ge 41, 3, 50, 0, []), none, none, some (.iload_n 2, 1, 0, 0, []), some (.iload_n 1, 1, 0, 0, []), some (.i2l, 1, 0, 0, []), some (.aload_n 0, 1, 0, 0, []), some (.getfield 20, 3, 12, 10, []), none, none, some (.iload_n 3, 1, 0, 0, []), some (.iaload, 1, 0, 0, []), some (.i2l, 1, 0, 0, []), some (.aload_n 0, 1, 0, 0, []), some (.getfield 23, 3, 12, 11, []), none, none, some (.iload_n 3, 1, 0, 0, []), some (.iaload, 1, 0, 0, []), some (.i2l, 1, 0, 0, []), some (.invokestatic 113, 3, 2403, 3, []), none, none, some (.ifCond .eq 9, 3, 41, 0, []), none, none, some (.iconst 1, 1, 0, 0, []), some (.iload_n 3, 1, 0, 0, []), some (.ishl, 1, 0, 0, []), some (.goto 4, 3, 42, 0, []), none, none, some (.iconst 0, 1, 0, 0, []), some (.ior, 1, 0, 0, []), some (.istore_n 2, 1, 0, 0, []), some (.iinc 3 1, 3, 0, 0, []), none, none, some (.goto (-43), 3, 4, 0, []), none, none, some (.iload_n 2, 1, 0, 0, []), some (.ireturn, 1, 0, 0, [])]
def kX12_fitting : List (Option zi_I) := [some (.iconst 1, 1, 0, 0, []), some (.aload_n 0, 1, 0, 0, []), some (.getfield 117, 3, 12, 4, []), none, none, some (.ishl, 1, 0, 0, []), some (.iconst 1, 1, 0, 0, []), some (.isub, 1, 0, 0, []), some (.istore_n 1, 1, 0, 0, []), some (.iconst 0, 1, 0, 0, []), some (.istore_n 2, 1, 0, 0, []), some (.iload_n 2, 1, 0, 0, []), some (.aload_n 0, 1, 0, 0, []), some (.getfield 432, 3, 12, 45, []), none, none, some (.if_icmp .ge 47, 3, 63, 0, []), none, none, some (.iload_n 1, 1, 0, 0, []), some (.aload_n 0, 1, 0, 0, []), some (.getfield 86, 3, 12, 47, []), none, none, some (.iload_n 2, 1, 0, 0, []), some (.iaload, 1, 0, 0, []), some (.iconst 1, 1, 0, 0, []), some (.if_icmp .ne 16, 3, 43, 0, []), none, none, some (.aload_n 0, 1, 0, 0, []), some (.aload_n 0, 1, 0, 0, []), some (.getfield 83, 3, 12, 46, []), none, none, some (.iload_n 2, 1, 0, 0, []), some (.iaload, 1, 0, 0, []), some (.invokevirtual 435, 3, 2496, 1, []), none, none, some (.goto 15, 3, 55, 0, []), none, none, some (.aload_n 0, 1, 0, 0, []), some (.aload_n 0, 1, 0, 0, []), some (.getfield 83, 3, 12, 46, []), none, none, some (.iload_n 2, 1, 0, 0, []), some (.iaload, 1, 0, 0, []), some (.invokevirtual 435, 3, 2496, 1, []), none, none, some (.iconst (-1), 1, 0, 0, []), some (.ixor, 1, 0, 0, []), some (.iand, 1, 0, 0, []), some (.istore_n 1, 1, 0, 0, []), some (.iinc 2 1, 3, 0, 0, []), none, none, some (.goto (-49), 3, 11, 0, []), none, none, some (.iload_n 1, 1, 0, 0, []), some (.ireturn, 1, 0, 0, [])]
def kX12_who : List (Option zi_I) := [some (.aload_n 0, 1, 0, 0, []), some (.iconst 0, 1, 0, 0, []), some (.putfield 99, 3, 12, 0, []), none, none, some (.aload_n 0, 1, 0, 0, []), some (.invokevirtual 438, 3, 2497, 0, []), none, none, some (.istore_n 1, 1, 0, 0, []), some (.aload_n 0, 1, 0, 0, []), some (.iconst 0, 1, 0, 0, []), some (.putfield 107, 3, 12, 1, []), none, none, some (.aload_n 0, 1, 0, 0, []), some (.iload_n 1, 1, 0, 0, []), some (.invokestatic 263, 3, 2800, 1, []), none, none, some (.i2l, 1, 0, 0, []), some (.invokevirtual 286, 3, 2407, 1, []), none, none, some (.iload_n 1, 1, 0, 0, []), some (.ireturn, 1, 0, 0, [])]
def kX12_listen : List (Option zi_I) := [some (.aload_n 0, 1, 0, 0, []), some (.iconst 0, 1, 0, 0, []), some (.putfield 99, 3, 12, 0, []), none, none, some (.aload_n 0, 1, 0, 0, []), some (.invokevirtual 438, 3, 2497, 0, []), none, none, some (.istore_n 1, 1, 0, 0, []), some (.iload_n 1, 1, 0, 0, []), some (.ifCond .ne 6, 3, 17, 0, []), none, none, some (.bipush (-2), 2, 0, 0, []), none, some (.ireturn, 1, 0, 0, []), some (.iconst (-1), 1, 0, 0, []), some (.istore_n 2, 1, 0, 0, []), some (.ldc_w 413, 3, 1000000, 0, []), none, none, some (.istore_n 3, 1, 0, 0, []), some (.iconst 0, 1, 0, 0, []), some (.istore 4, 2, 0, 0, []), none, some (.iload 4, 2, 0, 0, []), none, some (.bipush 26, 2, 0, 0, []), none, some (.if_icmp .ge 58, 3, 88, 0, []), none, none, some (.iload_n 1, 1, 0, 0, []), some (.aload_n 0, 1, 0, 0, []), some (.iload 4, 2, 0, 0, []), none, some (.invokevirtual 435, 3, 2496, 1, []), none, none, some (.iand, 1, 0, 0, []), some (.invokestatic 263, 3, 2800, 1, []), none, none, some (.iload_n 1, 1, 0, 0, []), some (.aload_n 0, 1, 0, 0, []), some (.iload 4, 2, 0, 0, []), none, some (.invokevirtual 435, 3, 2496, 1, []), none, none, some (.iconst (-1), 1, 0, 0, []), some (.ixor, 1, 0, 0, []), some (.iand, 1, 0, 0, []), some (.invokestatic 263, 3, 2800, 1, []), none, none, some (.invokestatic 247, 3, 9001, 0, []), none, none, some (.istore 5, 2, 0, 0, []), none, some (.iload 5, 2, 0, 0, []), none, some (.iload_n 3, 1, 0, 0, []), some (.if_icmp .ge 8, 3, 73, 0, []), none, none, some (.iload 4, 2, 0, 0, []), none, some (.goto 4, 3, 74, 0, []), none, none, some (.iload_n 2, 1, 0, 0, []), some (.istore_n 2, 1, 0, 0, []), some (.iload_n 3, 1, 0, 0, []), some (.iload 5, 2, 0, 0, []), none, some (.invokestatic 139, 3, 9002, 0, []), none, none, some (.istore_n 3, 1, 0, 0, []), some (.iinc 4 1, 3, 0, 0, []), none, none, some (.goto (-59), 3, 26, 0, []), none, none, some (.aload_n 0, 1, 0, 0, []), some (.iconst 0, 1, 0, 0, []), some (.putfield 107, 3, 12, 1, []), none, none, some (.aload_n 0, 1, 0, 0, []), some (.iload_n 3, 1, 0, 0, []), some (.i2l, 1, 0, 0, []), some (.invokevirtual 286, 3, 2407, 1, []), none, none, some (.iload_n 2, 1, 0, 0, []), some (.ireturn, 1, 0, 0, [])]
def kX12_isParted : List (Option zi_I) := [some (.iconst 1, 1, 0, 0, []), some (.istore_n 3, 1, 0, 0, []), some (.iconst 0, 1, 0, 0, []), some (.istore 4, 2, 0, 0, []), none, some (.iload 4, 2, 0, 0, []), none, some (.aload_n 0, 1, 0, 0, []), some (.getfield 117, 3, 12, 4, []), none, none, some (.if_icmp .ge 113, 3, 124, 0, []), none, none, some (.iload_n 3, 1, 0, 0, []), some (.ifCond .eq 109, 3, 124, 0, []), none, none, some (.iload_n 1, 1, 0, 0, []), some (.iload 4, 2, 0, 0, []), none, some (.invokestatic 250, 3, 2404, 2, []), none, none, some (.ifCond .eq 14, 3, 38, 0, []), none, none, some (.iload_n 1, 1, 0, 0, []), some (.iconst 1, 1, 0, 0, []), some (.iload 4, 2, 0, 0, []), none, some (.ishl, 1, 0, 0, []), some (.iconst (-1), 1, 0, 0, []), some (.ixor, 1, 0, 0, []), some (.iand, 1, 0, 0, []), some (.goto 4, 3, 39, 0, []), none, none, some (.iconst 0, 1, 0, 0, []), some (.istore 5, 2, 0, 0, []), none, some (.iconst 0, 1, 0, 0, []), some (.istore 6, 2, 0, 0, []), none, some (.iload 6, 2, 0, 0, []), none, some (.bipush 26, 2, 0, 0, []), none, some (.if_icmp .ge 59, 3, 107, 0, []), none, none, some (.iload 5, 2, 0, 0, []), none, some (.ifCond .eq 54, 3, 107, 0, []), none, none, some (.aload_n 0, 1, 0, 0, []), some (.iload 6, 2, 0, 0, []), none, some (.invokevirtual 435, 3, 2496, 1, []), none, none, some (.istore 7, 2, 0, 0, []), none, some (.iload 5, 2, 0, 0, []), none, some (.iload_n 2, 1, 0, 0, []), some (.iload 6, 2, 0, 0, []), none, some (.invokestatic 250, 3, 2404, 2, []), none, none, some (.ifCond .ne 7, 3, 79, 0, []), none, none, some (.iconst (-1), 1, 0, 0, []), some (.goto 22, 3, 98, 0, []), none, none, some (.iload 7, 2, 0, 0, []), none, some (.iload 4, 2, 0, 0, []), none, some (.invokestatic 250, 3, 2404, 2, []), none, none, some (.ifCond .eq 8, 3, 94, 0, []), none, none, some (.iload 7, 2, 0, 0, []), none, some (.goto 7, 3, 98, 0, []), none, none, some (.iload 7, 2, 0, 0, []), none, some (.iconst (-1), 1, 0, 0, []), some (.ixor, 1, 0, 0, []), some (.iand, 1, 0, 0, []), some (.istore 5, 2, 0, 0, []), none, some (.iinc 6 1, 3, 0, 0, []), none, none, some (.goto (-60), 3, 44, 0, []), none, none, some (.iload 5, 2, 0, 0, []), none, some (.ifCond .ne 7, 3, 116, 0, []), none, none, some (.iconst 1, 1, 0, 0, []), some (.goto 4, 3, 117, 0, []), none, none, some (.iconst 0, 1, 0, 0, []), some (.istore_n 3, 1, 0, 0, []), some (.iinc 4 1, 3, 0, 0, []), none, none, some (.goto (-116), 3, 5, 0, []), none, none, some (.iload_n 3, 1, 0, 0, []), some (.ireturn, 1, 0, 0, [])]
def kX12_partsBy : List (Option zi_I) := [some (.iload_n 3, 1, 0, 0, []), some (.ifCond .ne 18, 3, 19, 0, []), none, none, some (.aload_n 0, 1, 0, 0, []), some (.iload_n 1, 1, 0, 0, []), some (.iload_n 2, 1, 0, 0, []), some (.invokevirtual 441, 3, 2500, 2, []), none, none, some (.ifCond .eq 7, 3, 17, 0, []), none, none, some (.iload_n 2, 1, 0, 0, []), some (.goto 4, 3, 18, 0, []), none, none, some (.iconst (-1), 1, 0, 0, []), some (.ireturn, 1, 0, 0, []), some (.iconst (-1), 1, 0, 0, []), some (.istore 5, 2, 0, 0, []), none, some (.iload_n 3, 1, 0, 0, []), some (.iconst 1, 1, 0, 0, []), some (.isub, 1, 0, 0, []), some (.istore 6, 2, 0, 0, []), none, some (.iload 6, 2, 0, 0, []), none, some (.iload 4, 2, 0, 0, []), none, some (.if_icmp .ge 32, 3, 63, 0, []), none, none, some (.iload 5, 2, 0, 0, []), none, some (.ifCond .ge 27, 3, 63, 0, []), none, none, some (.aload_n 0, 1, 0, 0, []), some (.iload_n 1, 1, 0, 0, []), some (.iload_n 2, 1, 0, 0, []), some (.iconst 1, 1, 0, 0, []), some (.iload 6, 2, 0, 0, []), none, some (.ishl, 1, 0, 0, []), some (.ior, 1, 0, 0, []), some (.iload_n 3, 1, 0, 0, []), some (.iconst 1, 1, 0, 0, []), some (.isub, 1, 0, 0, []), some (.iload 6, 2, 0, 0, []), none, some (.invokevirtual 444, 3, 2501, 4, []), none, none, some (.istore 5, 2, 0, 0, []), none, some (.iinc 6 1, 3, 0, 0, []), none, none, some (.goto (-33), 3, 27, 0, []), none, none, some (.iload 5, 2, 0, 0, []), none, some (.ireturn, 1, 0, 0, [])]
def kX12_parts : List (Option zi_I) := [some (.aload_n 0, 1, 0, 0, []), some (.iconst 0, 1, 0, 0, []), some (.putfield 99, 3, 12, 0, []), none, none, some (.aload_n 0, 1, 0, 0, []), some (.invokevirtual 438, 3, 2497, 0, []), none, none, some (.istore_n 1, 1, 0, 0, []), some (.iconst 0, 1, 0, 0, []), some (.istore_n 2, 1, 0, 0, []), some (.iload_n 2, 1, 0, 0, []), some (.iconst 4, 1, 0, 0, []), some (.if_icmp .gt 36, 3, 50, 0, []), none, none, some (.aload_n 0, 1, 0, 0, []), some (.iload_n 1, 1, 0, 0, []), some (.iconst 0, 1, 0, 0, []), some (.iload_n 2, 1, 0, 0, []), some (.bipush 26, 2, 0, 0, []), none, some (.invokevirtual 444, 3, 2501, 4, []), none, none, some (.istore_n 3, 1, 0, 0, []), some (.iload_n 3, 1, 0, 0, []), some (.ifCond .lt 16, 3, 44, 0, []), none, none, some (.aload_n 0, 1, 0, 0, []), some (.iconst 0, 1, 0, 0, []), some (.putfield 107, 3, 12, 1, []), none, none, some (.aload_n 0, 1, 0, 0, []), some (.iload_n 3, 1, 0, 0, []), some (.i2l, 1, 0, 0, []), some (.invokevirtual 286, 3, 2407, 1, []), none, none, some (.iload_n 2, 1, 0, 0, []), some (.ireturn, 1, 0, 0, []), some (.iinc 2 1, 3, 0, 0, []), none, none, some (.goto (-35), 3, 12, 0, []), none, none, some (.bipush (-2), 2, 0, 0, []), none, some (.ireturn, 1, 0, 0, [])]
def kX12_bets : List (Option zi_I) := [some (.sipush 10000, 3, 0, 0, []), none, none, some (.bipush 10, 2, 0, 0, []), none, some (.iload_n 2, 1, 0, 0, []), some (.isub, 1, 0, 0, []), some (.bipush 10, 2, 0, 0, []), none, some (.iload_n 2, 1, 0, 0, []), some (.isub, 1, 0, 0, []), some (.imul, 1, 0, 0, []), some (.bipush 10, 2, 0, 0, []), none, some (.iload_n 2, 1, 0, 0, []), some (.isub, 1, 0, 0, []), some (.imul, 1, 0, 0, []), some (.bipush 10, 2, 0, 0, []), none, some (.iload_n 2, 1, 0, 0, []), some (.isub, 1, 0, 0, []), some (.imul, 1, 0, 0, []), some (.isub, 1, 0, 0, []), some (.i2l, 1, 0, 0, []), some (.lstore_n 3, 1, 0, 0, []), some (.lconst 1, 1, 0, 0, []), some (.lstore 5, 2, 0, 0, []), none, some (.aload_n 0, 1, 0, 0, []), some (.lconst 1, 1, 0, 0, []), some (.putfield 447, 3, 12, 49, []), none, none, some (.iconst 0, 1, 0, 0, []), some (.istore 7, 2, 0, 0, []), none, some (.iload 7, 2, 0, 0, []), none, some (.iload_n 1, 1, 0, 0, []), some (.if_icmp .ge 27, 3, 66, 0, []), none, none, some (.lload 5, 2, 0, 0, []), none, some (.lload_n 3, 1, 0, 0, []), some (.lmul, 1, 0, 0, []), some (.lstore 5, 2, 0, 0, []), none, some (.aload_n 0, 1, 0, 0, []), some (.dup, 1, 0, 0, []), some (.getfield 447, 3, 12, 49, []), none, none, some (.ldc2_w 451, 3, 10000, 0, []), none, none, some (.lmul, 1, 0, 0, []), some (.putfield 447, 3, 12, 49, []), none, none, some (.iinc 7 1, 3, 0, 0, []), none, none, some (.goto (-27), 3, 36, 0, []), none, none, some (.aload_n 0, 1, 0, 0, []), some (.aload_n 0, 1, 0, 0, []), some (.getfield 447, 3, 12, 49, []), none, none, some (.lload 5, 2, 0, 0, []), none, some (.lsub, 1, 0, 0, []), some (.putfield 453, 3, 12, 48, []), none, none, some (.return_, 1, 0, 0, [])]
def kX12_opens : List (Option zi_I) := [some (.aload_n 0, 1, 0, 0, []), some (.iconst 0, 1, 0, 0, []), some (.putfield 99, 3, 12, 0, []), none, none, some (.iload_n 1, 1, 0, 0, []), some (.i2l, 1, 0, 0, []), some (.lconst 1, 1, 0, 0, []), some (.ldc2_w 456, 3, 4, 0, []), none, none, some (.invokestatic 113, 3, 2403, 3, []), none, none, some (.ifCond .eq 15, 3, 29, 0, []), none, none, some (.iload_n 2, 1, 0, 0, []), some (.i2l, 1, 0, 0, []), some (.lconst 0, 1, 0, 0, []), some (.ldc2_w 458, 3, 10, 0, []), none, none, some (.invokestatic 113, 3, 2403, 3, []), none, none, some (.ifCond .ne 5, 3, 31, 0, []), none, none, some (.iconst (-1), 1, 0, 0, []), some (.ireturn, 1, 0, 0, []), some (.aload_n 0, 1, 0, 0, []), some (.iload_n 1, 1, 0, 0, []), some (.iload_n 2, 1, 0, 0, []), some (.invokevirtual 460, 3, 2503, 2, []), none, none, some (.aload_n 0, 1, 0, 0, []), some (.getfield 453, 3, 12, 48, []), none, none, some (.aload_n 0, 1, 0, 0, []), some (.getfield 447, 3, 12, 49, []), none, none, some (.invokestatic 103, 3, 2406, 2, []), none, none, some (.lstore_n 3, 1, 0, 0, []), some (.aload_n 0, 1, 0, 0, []), some (.iconst 0, 1, 0, 0, []), some (.putfield 107, 3, 12, 1, []), none, none, some (.aload_n 0, 1, 0, 0, []), some (.aload_n 0, 1, 0, 0, []), some (.getfield 453, 3, 12, 48, []), none, none, some (.lload_n 3, 1, 0, 0, []), some (.ldiv, 1, 0, 0, []), some (.invokevirtual 286, 3, 2407, 1, []), none, none, some (.aload_n 0, 1, 0, 0, []), some (.aload_n 0, 1, 0, 0, []), some (.getfield 447, 3, 12, 49, []), none, none, some (.lload_n 3, 1, 0, 0, []), some (.ldiv, 1, 0, 0, []), some (.invokevirtual 286, 3, 2407, 1, []), none, none, some (.iconst 0, 1, 0, 0, []), some (.ireturn, 1, 0, 0, [])]
def kX12_tries : List (Option zi_I) := [some (.aload_n 0, 1, 0, 0, []), some (.iconst 0, 1, 0, 0, []), some (.putfield 99, 3, 12, 0, []), none, none, some (.iload_n 1, 1, 0, 0, []), some (.i2l, 1, 0, 0, []), some (.lconst 0, 1, 0, 0, []), some (.ldc2_w 458, 3, 10, 0, []), none, none, some (.invokestatic 113, 3, 2403, 3, []), none, none, some (.ifCond .eq 15, 3, 29, 0, []), none, none, some (.iload_n 2, 1, 0, 0, []), some (.i2l, 1, 0, 0, []), some (.lconst 0, 1, 0, 0, []), some (.ldc2_w 463, 3, 100, 0, []), none, none, some (.invokestatic 113, 3, 2403, 3, []), none, none, some (.ifCond .ne 5, 3, 31, 0, []), none, none, some (.iconst (-1), 1, 0, 0, []), some (.ireturn, 1, 0, 0, []), some (.iconst 1, 1, 0, 0, []), some (.istore_n 3, 1, 0, 0, []), some (.iload_n 3, 1, 0, 0, []), some (.iconst 4, 1, 0, 0, []), some (.if_icmp .gt 36, 3, 71, 0, []), none, none, some (.aload_n 0, 1, 0, 0, []), some (.iload_n 3, 1, 0, 0, []), some (.iload_n 1, 1, 0, 0, []), some (.invokevirtual 460, 3, 2503, 2, []), none, none, some (.ldc2_w 463, 3, 100, 0, []), none, none, some (.aload_n 0, 1, 0, 0, []), some (.getfield 453, 3, 12, 48, []), none, none, some (.lmul, 1, 0, 0, []), some (.iload_n 2, 1, 0, 0, []), some (.i2l, 1, 0, 0, []), some (.aload_n 0, 1, 0, 0, []), some (.getfield 447, 3, 12, 49, []), none, none, some (.lmul, 1, 0, 0, []), some (.lcmp, 1, 0, 0, []), some (.ifCond .lt 5, 3, 65, 0, []), none, none, some (.iload_n 3, 1, 0, 0, []), some (.ireturn, 1, 0, 0, []), some (.iinc 3 1, 3, 0, 0, []), none, none, some (.goto (-35), 3, 33, 0, []), none, none, some (.bipush (-2), 2, 0, 0, []), none, some (.ireturn, 1, 0, 0, [])]
def kX12_earns : List (Option zi_I) := [some (.iload_n 0, 1, 0, 0, []), some (.iload_n 1, 1, 0, 0, []), some (.if_icmp .ge 9, 3, 11, 0, []), none, none, some (.iload_n 0, 1, 0, 0, []), some (.iload_n 2, 1, 0, 0, []), some (.isub, 1, 0, 0, []), some (.goto 17, 3, 25, 0, []), none, none, some (.iload_n 0, 1, 0, 0, []), some (.iload_n 1, 1, 0, 0, []), some (.if_icmp .ne 11, 3, 24, 0, []), none, none, some (.iload_n 0, 1, 0, 0, []), some (.iload_n 2, 1, 0, 0, []), some (.isub, 1, 0, 0, []), some (.iconst 2, 1, 0, 0, []), some (.idiv, 1, 0, 0, []), some (.goto 4, 3, 25, 0, []), none, none, some (.iconst 0, 1, 0, 0, []), some (.ireturn, 1, 0, 0, [])]
def kX12_isRest : List (Option zi_I) := [some (.iconst 1, 1, 0, 0, []), some (.istore_n 3, 1, 0, 0, []), some (.iconst 0, 1, 0, 0, []), some (.istore 4, 2, 0, 0, []), none, some (.iload 4, 2, 0, 0, []), none, some (.bipush 9, 2, 0, 0, []), none, some (.if_icmp .gt 35, 3, 44, 0, []), none, none, some (.iload_n 3, 1, 0, 0, []), some (.ifCond .eq 23, 3, 36, 0, []), none, none, some (.iload 4, 2, 0, 0, []), none, some (.iload_n 1, 1, 0, 0, []), some (.iload_n 2, 1, 0, 0, []), some (.invokestatic 465, 3, 2506, 3, []), none, none, some (.iload_n 0, 1, 0, 0, []), some (.iload_n 1, 1, 0, 0, []), some (.iload_n 2, 1, 0, 0, []), some (.invokestatic 465, 3, 2506, 3, []), none, none, some (.if_icmp .gt 7, 3, 36, 0, []), none, none, some (.iconst 1, 1, 0, 0, []), some (.goto 4, 3, 37, 0, []), none, none, some (.iconst 0, 1, 0, 0, []), some (.istore_n 3, 1, 0, 0, []), some (.iinc 4 1, 3, 0, 0, []), none, none, some (.goto (-36), 3, 5, 0, []), none, none, some (.iload_n 3, 1, 0, 0, []), some (.ireturn, 1, 0, 0, [])]
def kX12_rests : List (Option zi_I) := [some (.aload_n 0, 1, 0, 0, []), some (.iconst 0, 1, 0, 0, []), some (.putfield 99, 3, 12, 0, []), none, none, some (.iload_n 1, 1, 0, 0, []), some (.i2l, 1, 0, 0, []), some (.lconst 0, 1, 0, 0, []), some (.ldc2_w 468, 3, 9, 0, []), none, none, some (.invokestatic 113, 3, 2403, 3, []), none, none, some (.ifCond .ne 5, 3, 19, 0, []), none, none, some (.iconst (-1), 1, 0, 0, []), some (.ireturn, 1, 0, 0, []), some (.iconst 0, 1, 0, 0, []), some (.istore_n 2, 1, 0, 0, []), some (.aload_n 0, 1, 0, 0, []), some (.iconst 0, 1, 0, 0, []), some (.putfield 107, 3, 12, 1, []), none, none, some (.iconst 0, 1, 0, 0, []), some (.istore_n 3, 1, 0, 0, []), some (.iload_n 3, 1, 0, 0, []), some (.bipush 9, 2, 0, 0, []), none, some (.if_icmp .gt 65, 3, 96, 0, []), none, none, some (.iconst 0, 1, 0, 0, []), some (.istore 4, 2, 0, 0, []), none, some (.iload 4, 2, 0, 0, []), none, some (.bipush 9, 2, 0, 0, []), none, some (.if_icmp .gt 49, 3, 90, 0, []), none, none, some (.iload_n 3, 1, 0, 0, []), some (.iload 4, 2, 0, 0, []), none, some (.iload_n 1, 1, 0, 0, []), some (.invokestatic 470, 3, 2507, 3, []), none, none, some (.ifCond .eq 33, 3, 84, 0, []), none, none, some (.iload 4, 2, 0, 0, []), none, some (.iload_n 3, 1, 0, 0, []), some (.iload_n 1, 1, 0, 0, []), some (.invokestatic 470, 3, 2507, 3, []), none, none, some (.ifCond .eq 23, 3, 84, 0, []), none, none, some (.iload_n 2, 1, 0, 0, []), some (.ifCond .ne 16, 3, 81, 0, []), none, none, some (.aload_n 0, 1, 0, 0, []), some (.iload_n 3, 1, 0, 0, []), some (.i2l, 1, 0, 0, []), some (.invokevirtual 286, 3, 2407, 1, []), none, none, some (.aload_n 0, 1, 0, 0, []), some (.iload 4, 2, 0, 0, []), none, some (.i2l, 1, 0, 0, []), some (.invokevirtual 286, 3, 2407, 1, []), none, none, some (.iinc 2 1, 3, 0, 0, []), none, none, some (.iinc 4 1, 3, 0, 0, []), none, none, some (.goto (-50), 3, 37, 0, []), none, none, some (.iinc 3 1, 3, 0, 0, []), none, none, some (.goto (-65), 3, 28, 0, []), none, none, some (.iload_n 2, 1, 0, 0, []), some (.ireturn, 1, 0, 0, [])]
def kX12_pays : List (Option zi_I) := [some (.aload_n 0, 1, 0, 0, []), some (.iconst 0, 1, 0, 0, []), some (.putfield 99, 3, 12, 0, []), none, none, some (.aload_n 0, 1, 0, 0, []), some (.iload_n 1, 1, 0, 0, []), some (.iload_n 2, 1, 0, 0, []), some (.invokevirtual 368, 3, 2470, 2, []), none, none, some (.ifCond .ne 5, 3, 16, 0, []), none, none, some (.iconst (-1), 1, 0, 0, []), some (.ireturn, 1, 0, 0, []), some (.aload_n 0, 1, 0, 0, []), some (.aload_n 0, 1, 0, 0, []), some (.getfield 32, 3, 12, 14, []), none, none, some (.iload_n 1, 1, 0, 0, []), some (.invokestatic 127, 3, 2412, 2, []), none, none, some (.invokevirtual 383, 3, 2479, 1, []), none, none, some (.istore_n 3, 1, 0, 0, []), some (.aload_n 0, 1, 0, 0, []), some (.iload_n 1, 1, 0, 0, []), some (.iload_n 2, 1, 0, 0, []), some (.iload_n 3, 1, 0, 0, []), some (.invokevirtual 386, 3, 2478, 3, []), none, none, some (.istore 4, 2, 0, 0, []), none, some (.iload 4, 2, 0, 0, []), none, some (.ifCond .ge 6, 3, 46, 0, []), none, none, some (.bipush (-2), 2, 0, 0, []), none, some (.ireturn, 1, 0, 0, []), some (.iconst 0, 1, 0, 0, []), some (.istore 5, 2, 0, 0, []), none, some (.aload_n 0, 1, 0, 0, []), some (.iconst 0, 1, 0, 0, []), some (.putfield 107, 3, 12, 1, []), none, none, some (.iconst 0, 1, 0, 0, []), some (.istore 6, 2, 0, 0, []), none, some (.iload 6, 2, 0, 0, []), none, some (.aload_n 0, 1, 0, 0, []), some (.getfield 117, 3, 12, 4, []), none, none, some (.if_icmp .ge 67, 3, 130, 0, []), none, none, some (.aload_n 0, 1, 0, 0, []), some (.iload_n 1, 1, 0, 0, []), some (.iload_n 2, 1, 0, 0, []), some (.iload_n 3, 1, 0, 0, []), some (.iconst 1, 1, 0, 0, []), some (.iload 6, 2, 0, 0, []), none, some (.ishl, 1, 0, 0, []), some (.iconst (-1), 1, 0, 0, []), some (.ixor, 1, 0, 0, []), some (.iand, 1, 0, 0, []), some (.invokevirtual 386, 3, 2478, 3, []), none, none, some (.istore 7, 2, 0, 0, []), none, some (.iload 7, 2, 0, 0, []), none, some (.ifCond .ge 9, 3, 93, 0, []), none, none, some (.sipush 9999, 3, 0, 0, []), none, none, some (.goto 16, 3, 106, 0, []), none, none, some (.aload_n 0, 1, 0, 0, []), some (.iload 7, 2, 0, 0, []), none, some (.invokevirtual 377, 3, 2476, 1, []), none, none, some (.aload_n 0, 1, 0, 0, []), some (.iload 4, 2, 0, 0, []), none, some (.invokevirtual 377, 3, 2476, 1, []), none, none, some (.isub, 1, 0, 0, []), some (.istore 8, 2, 0, 0, []), none, some (.iload 5, 2, 0, 0, []), none, some (.iload 8, 2, 0, 0, []), none, some (.invokestatic 247, 3, 9001, 0, []), none, none, some (.istore 5, 2, 0, 0, []), none, some (.aload_n 0, 1, 0, 0, []), some (.iload 8, 2, 0, 0, []), none, some (.i2l, 1, 0, 0, []), some (.invokevirtual 286, 3, 2407, 1, []), none, none, some (.iinc 6 1, 3, 0, 0, []), none, none, some (.goto (-70), 3, 57, 0, []), none, none, some (.iload 5, 2, 0, 0, []), none, some (.ireturn, 1, 0, 0, [])]
def kX12_days : List (Option zi_I) := [some (.aload_n 0, 1, 0, 0, []), some (.iconst 0, 1, 0, 0, []), some (.putfield 99, 3, 12, 0, []), none, none, some (.iload_n 2, 1, 0, 0, []), some (.i2l, 1, 0, 0, []), some (.lconst 1, 1, 0, 0, []), some (.ldc2_w 473, 3, 60, 0, []), none, none, some (.invokestatic 113, 3, 2403, 3, []), none, none, some (.ifCond .eq 10, 3, 24, 0, []), none, none, some (.aload_n 0, 1, 0, 0, []), some (.getfield 120, 3, 12, 5, []), none, none, some (.ifCond .ne 5, 3, 26, 0, []), none, none, some (.iconst (-1), 1, 0, 0, []), some (.ireturn, 1, 0, 0, []), some (.iload_n 1, 1, 0, 0, []), some (.istore_n 3, 1, 0, 0, []), some (.iconst 0, 1, 0, 0, []), some (.istore 4, 2, 0, 0, []), none, some (.aload_n 0, 1, 0, 0, []), some (.invokevirtual 398, 3, 2481, 0, []), none, none, some (.iconst 0, 1, 0, 0, []), some (.istore 5, 2, 0, 0, []), none, some (.iload 5, 2, 0, 0, []), none, some (.iload_n 2, 1, 0, 0, []), some (.if_icmp .ge 97, 3, 138, 0, []), none, none, some (.iload_n 3, 1, 0, 0, []), some (.ldc_w 475, 3, 1103515245, 0, []), none, none, some (.imul, 1, 0, 0, []), some (.sipush 12345, 3, 0, 0, []), none, none, some (.iadd, 1, 0, 0, []), some (.istore_n 3, 1, 0, 0, []), some (.iload_n 3, 1, 0, 0, []), some (.bipush 16, 2, 0, 0, []), none, some (.iushr, 1, 0, 0, []), some (.aload_n 0, 1, 0, 0, []), some (.getfield 120, 3, 12, 5, []), none, none, some (.irem, 1, 0, 0, []), some (.istore 6, 2, 0, 0, []), none, some (.iload_n 3, 1, 0, 0, []), some (.ldc_w 475, 3, 1103515245, 0, []), none, none, some (.imul, 1, 0, 0, []), some (.sipush 12345, 3, 0, 0, []), none, none, some (.iadd, 1, 0, 0, []), some (.istore_n 3, 1, 0, 0, []), some (.iload_n 3, 1, 0, 0, []), some (.bipush 16, 2, 0, 0, []), none, some (.iushr, 1, 0, 0, []), some (.iconst 3, 1, 0, 0, []), some (.irem, 1, 0, 0, []), some (.istore 7, 2, 0, 0, []), none, some (.iload 7, 2, 0, 0, []), none, some (.iconst 2, 1, 0, 0, []), some (.if_icmp .ne 16, 3, 102, 0, []), none, none, some (.aload_n 0, 1, 0, 0, []), some (.aload_n 0, 1, 0, 0, []), some (.getfield 35, 3, 12, 15, []), none, none, some (.bipush 10, 2, 0, 0, []), none, some (.invokevirtual 350, 3, 2462, 2, []), none, none, some (.goto 33, 3, 132, 0, []), none, none, some (.iload 4, 2, 0, 0, []), none, some (.aload_n 0, 1, 0, 0, []), some (.aload_n 0, 1, 0, 0, []), some (.getfield 35, 3, 12, 15, []), none, none, some (.iload 6, 2, 0, 0, []), none, some (.iconst 1, 1, 0, 0, []), some (.iload 7, 2, 0, 0, []), none, some (.isub, 1, 0, 0, []), some (.invokevirtual 342, 3, 2461, 3, []), none, none, some (.ifCond .lt 7, 3, 125, 0, []), none, none, some (.iconst 1, 1, 0, 0, []), some (.goto 4, 3, 126, 0, []), none, none, some (.iconst 0, 1, 0, 0, []), some (.invokestatic 148, 3, 2405, 1, []), none, none, some (.iadd, 1, 0, 0, []), some (.istore 4, 2, 0, 0, []), none, some (.iinc 5 1, 3, 0, 0, []), none, none, some (.goto (-97), 3, 38, 0, []), none, none, some (.aload_n 0, 1, 0, 0, []), some (.iconst 0, 1, 0, 0, []), some (.putfield 107, 3, 12, 1, []), none, none, some (.aload_n 0, 1, 0, 0, []), some (.aload_n 0, 1, 0, 0, []), some (.getfield 35, 3, 12, 15, []), none, none, some (.bipush 9, 2, 0, 0, []), none, some (.iaload, 1, 0, 0, []), some (.aload_n 0, 1, 0, 0, []), some (.getfield 32, 3, 12, 14, []), none, none, some (.bipush 9, 2, 0, 0, []), none, some (.iaload, 1, 0, 0, []), some (.isub, 1, 0, 0, []), some (.i2l, 1, 0, 0, []), some (.invokevirtual 286, 3, 2407, 1, []), none, none, some (.aload_n 0, 1, 0, 0, []), some (.aload_n 0, 1, 0, 0, []), some (.getfield 35, 3, 12, 15, []), none, none, some (.bipush 8, 2, 0, 0, []), none, some (.iaload, 1, 0, 0, []), some (.i2l, 1, 0, 0, []), some (.invokevirtual 286, 3, 2407, 1, []), none, none, some (.iload 4, 2, 0, 0, []), none, some (.ireturn, 1, 0, 0, [])]
def kX12_keep : List (Option zi_I) := [some (.aload_n 0, 1, 0, 0, []), some (.iconst 0, 1, 0, 0, []), some (.putfield 99, 3, 12, 0, []), none, none, some (.iload_n 1, 1, 0, 0, []), some (.i2l, 1, 0, 0, []), some (.lconst 0, 1, 0, 0, []), some (.ldc2_w 476, 3, 2, 0, []), none, none, some (.invokestatic 113, 3, 2403, 3, []), none, none, some (.ifCond .ne 5, 3, 19, 0, []), none, none, some (.iconst 0, 1, 0, 0, []), some (.ireturn, 1, 0, 0, []), some (.aload_n 0, 1, 0, 0, []), some (.getfield 89, 3, 12, 50, []), none, none, some (.iload_n 1, 1, 0, 0, []), some (.iconst 1, 1, 0, 0, []), some (.bastore, 1, 0, 0, []), some (.aload_n 0, 1, 0, 0, []), some (.getfield 93, 3, 12, 51, []), none, none, some (.iload_n 1, 1, 0, 0, []), some (.aload_n 0, 1, 0, 0, []), some (.getfield 208, 3, 12, 7, []), none, none, some (.iastore, 1, 0, 0, []), some (.iconst 0, 1, 0, 0, []), some (.istore_n 2, 1, 0, 0, []), some (.iload_n 2, 1, 0, 0, []), some (.bipush 42, 2, 0, 0, []), none, some (.if_icmp .ge 26, 3, 67, 0, []), none, none, some (.aload_n 0, 1, 0, 0, []), some (.getfield 96, 3, 12, 52, []), none, none, some (.bipush 42, 2, 0, 0, []), none, some (.iload_n 1, 1, 0, 0, []), some (.imul, 1, 0, 0, []), some (.iload_n 2, 1, 0, 0, []), some (.iadd, 1, 0, 0, []), some (.aload_n 0, 1, 0, 0, []), some (.getfield 32, 3, 12, 14, []), none, none, some (.iload_n 2, 1, 0, 0, []), some (.iaload, 1, 0, 0, []), some (.iastore, 1, 0, 0, []), some (.iinc 2 1, 3, 0, 0, []), none, none, some (.goto (-26), 3, 38, 0, []), none, none, some (.iconst 1, 1, 0, 0, []), some (.ireturn, 1, 0, 0, [])]
def kX12_again : List (Option zi_I) := [some (.aload_n 0, 1, 0, 0, []), some (.iconst 0, 1, 0, 0, []), some (.putfield 99, 3, 12, 0, []), none, none, some (.iload_n 1, 1, 0, 0, []), some (.i2l, 1, 0, 0, []), some (.lconst 0, 1, 0, 0, []), some (.ldc2_w 476, 3, 2, 0, []), none, none, some (.invokestatic 113, 3, 2403, 3, []), none, none, some (.ifCond .eq 25, 3, 39, 0, []), none, none, some (.aload_n 0, 1, 0, 0, []), some (.getfield 89, 3, 12, 50, []), none, none, some (.iload_n 1, 1, 0, 0, []), some (.baload, 1, 0, 0, []), some (.ifCond .eq 16, 3, 39, 0, []), none, none, some (.aload_n 0, 1, 0, 0, []), some (.getfield 93, 3, 12, 51, []), none, none, some (.iload_n 1, 1, 0, 0, []), some (.iaload, 1, 0, 0, []), some (.aload_n 0, 1, 0, 0, []), some (.getfield 208, 3, 12, 7, []), none, none, some (.if_icmp .eq 5, 3, 41, 0, []), none, none, some (.iconst 0, 1, 0, 0, []), some (.ireturn, 1, 0, 0, []), some (.iconst 0, 1, 0, 0, []), some (.istore_n 2, 1, 0, 0, []), some (.iload_n 2, 1, 0, 0, []), some (.bipush 42, 2, 0, 0, []), none, some (.if_icmp .ge 26, 3, 72, 0, []), none, none, some (.aload_n 0, 1, 0, 0, []), some (.getfield 32, 3, 12, 14, []), none, none, some (.iload_n 2, 1, 0, 0, []), some (.aload_n 0, 1, 0, 0, []), some (.getfield 96, 3, 12, 52, []), none, none, some (.bipush 42, 2, 0, 0, []), none, some (.iload_n 1, 1, 0, 0, []), some (.imul, 1, 0, 0, []), some (.iload_n 2, 1, 0, 0, []), some (.iadd, 1, 0, 0, []), some (.iaload, 1, 0, 0, []), some (.iastore, 1, 0, 0, []), some (.iinc 2 1, 3, 0, 0, []), none, none, some (.goto (-26), 3, 43, 0, []), none, none, some (.aload_n 0, 1, 0, 0, []), some (.iconst 0, 1, 0, 0, []), some (.putfield 205, 3, 12, 31, []), none, none, some (.iconst 1, 1, 0, 0, []), some (.ireturn, 1, 0, 0, [])]
def kX12_levels : List (Option zi_I) := [some (.iconst 0, 1, 0, 0, []), some (.istore_n 1, 1, 0, 0, []), some (.iconst 0, 1, 0, 0, []), some (.istore_n 2, 1, 0, 0, []), some (.iload_n 2, 1, 0, 0, []), some (.aload_n 0, 1, 0, 0, []), some (.getfield 110, 3, 12, 3, []), none, none, some (.if_icmp .ge 20, 3, 29, 0, []), none, none, some (.iload_n 1, 1, 0, 0, []), some (.aload_n 0, 1, 0, 0, []), some (.getfield 32, 3, 12, 14, []), none, none, some (.iload_n 2, 1, 0, 0, []), some (.iaload, 1, 0, 0, []), some (.iload_n 2, 1, 0, 0, []), some (.ishl, 1, 0, 0, []), some (.ior, 1, 0, 0, []), some (.istore_n 1, 1, 0, 0, []), some (.iinc 2 1, 3, 0, 0, []), none, none, some (.goto (-22), 3, 4, 0, []), none, none, some (.iload_n 1, 1, 0, 0, []), some (.ireturn, 1, 0, 0, [])]
def kX12_count : List (Option zi_I) := [some (.aload_n 0, 1, 0, 0, []), some (.iconst 0, 1, 0, 0, []), some (.putfield 99, 3, 12, 0, []), none, none, some (.iload_n 1, 1, 0, 0, []), some (.tableswitch 154 0 12 #[66, 71, 76, 81, 89, 97, 102, 107, 117, 134, 139, 144, 149], 66, 160, 0, [(0, 72), (1, 77), (2, 82), (3, 87), (4, 95), (5, 103), (6, 108), (7, 113), (8, 123), (9, 140), (10, 145), (11, 150), (12, 155)]), none, none, none, none, none, none, none, none, none, none, none, none, none, none, none, none, none, none, none, none, none, none, none, none, none, none, none, none, none, none, none, none, none, none, none, none, none, none, none, none, none, none, none, none, none, none, none, none, none, none, none, none, none, none, none, none, none, none, none, none, none, none, none, none, none, some (.aload_n 0, 1, 0, 0, []), some (.getfield 110, 3, 12, 3, []), none, none, some (.ireturn, 1, 0, 0, []), some (.aload_n 0, 1, 0, 0, []), some (.getfield 117, 3, 12, 4, []), none, none, some (.ireturn, 1, 0, 0, []), some (.aload_n 0, 1, 0, 0, []), some (.getfield 120, 3, 12, 5, []), none, none, some (.ireturn, 1, 0, 0, []), some (.aload_n 0, 1, 0, 0, []), some (.getfield 32, 3, 12, 14, []), none, none, some (.bipush 9, 2, 0, 0, []), none, some (.iaload, 1, 0, 0, []), some (.ireturn, 1, 0, 0, []), some (.aload_n 0, 1, 0, 0, []), some (.getfield 32, 3, 12, 14, []), none, none, some (.bipush 8, 2, 0, 0, []), none, some (.iaload, 1, 0, 0, []), some (.ireturn, 1, 0, 0, []), some (.aload_n 0, 1, 0, 0, []), some (.getfield 271, 3, 12, 6, []), none, none, some (.ireturn, 1, 0, 0, []), some (.aload_n 0, 1, 0, 0, []), some (.invokevirtual 478, 3, 2513, 0, []), none, none, some (.ireturn, 1, 0, 0, []), some (.aload_n 0, 1, 0, 0, []), some (.aload_n 0, 1, 0, 0, []), some (.getfield 32, 3, 12, 14, []), none, none, some (.iconst (-1), 1, 0, 0, []), some (.invokevirtual 257, 3, 2415, 2, []), none, none, some (.ireturn, 1, 0, 0, []), some (.aload_n 0, 1, 0, 0, []), some (.aload_n 0, 1, 0, 0, []), some (.getfield 32, 3, 12, 14, []), none, none, some (.iconst 1, 1, 0, 0, []), some (.aload_n 0, 1, 0, 0, []), some (.getfield 117, 3, 12, 4, []), none, none, some (.ishl, 1, 0, 0, []), some (.iconst 1, 1, 0, 0, []), some (.isub, 1, 0, 0, []), some (.invokevirtual 260, 3, 2441, 2, []), none, none, some (.ireturn, 1, 0, 0, []), some (.aload_n 0, 1, 0, 0, []), some (.getfield 432, 3, 12, 45, []), none, none, some (.ireturn, 1, 0, 0, []), some (.aload_n 0, 1, 0, 0, []), some (.getfield 205, 3, 12, 31, []), none, none, some (.ireturn, 1, 0, 0, []), some (.aload_n 0, 1, 0, 0, []), some (.getfield 107, 3, 12, 1, []), none, none, some (.ireturn, 1, 0, 0, []), some (.aload_n 0, 1, 0, 0, []), some (.getfield 130, 3, 12, 17, []), none, none, some (.ireturn, 1, 0, 0, []), some (.bipush (-100), 2, 0, 0, []), none, some (.ireturn, 1, 0, 0, [])]
def kX12_row : List (Option zi_I) := [some (.aload_n 0, 1, 0, 0, []), some (.iconst 0, 1, 0, 0, []), some (.putfield 99, 3, 12, 0, []), none, none, some (.iload_n 1, 1, 0, 0, []), some (.i2l, 1, 0, 0, []), some (.lconst 0, 1, 0, 0, []), some (.aload_n 0, 1, 0, 0, []), some (.getfield 107, 3, 12, 1, []), none, none, some (.iconst 1, 1, 0, 0, []), some (.isub, 1, 0, 0, []), some (.i2l, 1, 0, 0, []), some (.invokestatic 113, 3, 2403, 3, []), none, none, some (.ifCond .ne 10, 3, 28, 0, []), none, none, some (.aload_n 0, 1, 0, 0, []), some (.iconst 1, 1, 0, 0, []), some (.putfield 99, 3, 12, 0, []), none, none, some (.lconst 0, 1, 0, 0, []), some (.lreturn, 1, 0, 0, []), some (.aload_n 0, 1, 0, 0, []), some (.getfield 9, 3, 12, 2, []), none, none, some (.iload_n 1, 1, 0, 0, []), some (.laload, 1, 0, 0, []), some (.lreturn, 1, 0, 0, [])]
def kJ6_bitCount_0f7a4 : List (Option zi_I) := [some (.iload_n 0, 1, 0, 0, []), some (.iload_n 0, 1, 0, 0, []), some (.iconst 1, 1, 0, 0, []), some (.iushr, 1, 0, 0, []), some (.ldc_w 265, 3, 1431655765, 0, []), none, none, some (.iand, 1, 0, 0, []), some (.isub, 1, 0, 0, []), some (.istore_n 0, 1, 0, 0, []), some (.iload_n 0, 1, 0, 0, []), some (.ldc_w 266, 3, 858993459, 0, []), none, none, some (.iand, 1, 0, 0, []), some (.iload_n 0, 1, 0, 0, []), some (.iconst 2, 1, 0, 0, []), some (.iushr, 1, 0, 0, []), some (.ldc_w 266, 3, 858993459, 0, []), none, none, some (.iand, 1, 0, 0, []), some (.iadd, 1, 0, 0, []), some (.istore_n 0, 1, 0, 0, []), some (.iload_n 0, 1, 0, 0, []), some (.iload_n 0, 1, 0, 0, []), some (.iconst 4, 1, 0, 0, []), some (.iushr, 1, 0, 0, []), some (.iadd, 1, 0, 0, []), some (.ldc_w 267, 3, 252645135, 0, []), none, none, some (.iand, 1, 0, 0, []), some (.istore_n 0, 1, 0, 0, []), some (.iload_n 0, 1, 0, 0, []), some (.iload_n 0, 1, 0, 0, []), some (.bipush 8, 2, 0, 0, []), none, some (.iushr, 1, 0, 0, []), some (.iadd, 1, 0, 0, []), some (.istore_n 0, 1, 0, 0, []), some (.iload_n 0, 1, 0, 0, []), some (.iload_n 0, 1, 0, 0, []), some (.bipush 16, 2, 0, 0, []), none, some (.iushr, 1, 0, 0, []), some (.iadd, 1, 0, 0, []), some (.istore_n 0, 1, 0, 0, []), some (.iload_n 0, 1, 0, 0, []), some (.bipush 63, 2, 0, 0, []), none, some (.iand, 1, 0, 0, []), some (.ireturn, 1, 0, 0, [])]
def kJ0_length_8abf5 : List (Option zi_I) := [some (.aload_n 0, 1, 0, 0, []), some (.getfield 9, 3, 15, 0, []), none, none, some (.arraylength, 1, 0, 0, []), some (.aload_n 0, 1, 0, 0, []), some (.invokevirtual 335, 3, 3004, 0, []), none, none, some (.ishr, 1, 0, 0, []), some (.ireturn, 1, 0, 0, [])]
def kJ0_charAt_5068e : List (Option zi_I) := [some (.aload_n 0, 1, 0, 0, []), some (.invokevirtual 492, 3, 3005, 0, []), none, none, some (.ifCond .eq 12, 3, 16, 0, []), none, none, some (.aload_n 0, 1, 0, 0, []), some (.getfield 9, 3, 15, 0, []), none, none, some (.iload_n 1, 1, 0, 0, []), some (.invokestatic 495, 3, 3200, 2, []), none, none, some (.ireturn, 1, 0, 0, []), some (.aload_n 0, 1, 0, 0, []), some (.getfield 9, 3, 15, 0, []), none, none, some (.iload_n 1, 1, 0, 0, []), none, none, none, some (.ireturn, 1, 0, 0, [])]
def kJ0_indexOf_0f7a4 : List (Option zi_I) := [some (.aload_n 0, 1, 0, 0, []), some (.iload_n 1, 1, 0, 0, []), some (.iconst 0, 1, 0, 0, []), some (.invokevirtual 633, 3, 3003, 2, []), none, none, some (.ireturn, 1, 0, 0, [])]
def kJ0_indexOf_7cf53 : List (Option zi_I) := [some (.aload_n 0, 1, 0, 0, []), some (.invokevirtual 492, 3, 3005, 0, []), none, none, some (.ifCond .eq 19, 3, 23, 0, []), none, none, some (.aload_n 0, 1, 0, 0, []), some (.getfield 9, 3, 15, 0, []), none, none, some (.iload_n 1, 1, 0, 0, []), some (.iload_n 2, 1, 0, 0, []), some (.aload_n 0, 1, 0, 0, []), some (.invokevirtual 505, 3, 3000, 0, []), none, none, some (.invokestatic 637, 3, 3202, 4, []), none, none, some (.goto 16, 3, 36, 0, []), none, none, some (.aload_n 0, 1, 0, 0, []), some (.getfield 9, 3, 15, 0, []), none, none, some (.iload_n 1, 1, 0, 0, []), some (.iload_n 2, 1, 0, 0, []), some (.aload_n 0, 1, 0, 0, []), some (.invokevirtual 505, 3, 3000, 0, []), none, none, none, none, none, some (.ireturn, 1, 0, 0, [])]
def kJ0_coder_7d493 : List (Option zi_I) := [some (.getstatic 38, 3, 1, 0, []), none, none, some (.ifCond .eq 10, 3, 13, 0, []), none, none, some (.aload_n 0, 1, 0, 0, []), some (.getfield 15, 3, 15, 1, []), none, none, some (.goto 4, 3, 14, 0, []), none, none, some (.iconst 1, 1, 0, 0, []), some (.ireturn, 1, 0, 0, [])]
def kJ0_isLatin1_aae02 : List (Option zi_I) := [some (.getstatic 38, 3, 1, 0, []), none, none, some (.ifCond .eq 14, 3, 17, 0, []), none, none, some (.aload_n 0, 1, 0, 0, []), some (.getfield 15, 3, 15, 1, []), none, none, some (.ifCond .ne 7, 3, 17, 0, []), none, none, some (.iconst 1, 1, 0, 0, []), some (.goto 4, 3, 18, 0, []), none, none, some (.iconst 0, 1, 0, 0, []), some (.ireturn, 1, 0, 0, [])]
def kJ1_charAt_3b067 : List (Option zi_I) := [some (.iload_n 1, 1, 0, 0, []), some (.aload_n 0, 1, 0, 0, []), some (.arraylength, 1, 0, 0, []), none, none, none, some (.aload_n 0, 1, 0, 0, []), some (.iload_n 1, 1, 0, 0, []), some (.baload, 1, 0, 0, []), some (.sipush 255, 3, 0, 0, []), none, none, some (.iand, 1, 0, 0, []), some (.i2c, 1, 0, 0, []), some (.ireturn, 1, 0, 0, [])]
def kJ1_canEncode_9a6ad : List (Option zi_I) := [some (.iload_n 0, 1, 0, 0, []), some (.ifCond .lt 14, 3, 15, 0, []), none, none, some (.iload_n 0, 1, 0, 0, []), some (.sipush 255, 3, 0, 0, []), none, none, some (.if_icmp .gt 7, 3, 15, 0, []), none, none, some (.iconst 1, 1, 0, 0, []), some (.goto 4, 3, 16, 0, []), none, none, some (.iconst 0, 1, 0, 0, []), some (.ireturn, 1, 0, 0, [])]
def kJ1_indexOf_4cfef : List (Option zi_I) := [some (.iload_n 1, 1, 0, 0, []), some (.invokestatic 88, 3, 3201, 1, []), none, none, some (.ifCond .ne 5, 3, 9, 0, []), none, none, some (.iconst (-1), 1, 0, 0, []), some (.ireturn, 1, 0, 0, []), some (.iload_n 2, 1, 0, 0, []), some (.iconst 0, 1, 0, 0, []), some (.invokestatic 92, 3, 9001, 0, []), none, none, some (.istore_n 2, 1, 0, 0, []), some (.iload_n 3, 1, 0, 0, []), some (.aload_n 0, 1, 0, 0, []), some (.arraylength, 1, 0, 0, []), some (.invokestatic 38, 3, 9002, 0, []), none, none, some (.istore_n 3, 1, 0, 0, []), some (.iload_n 2, 1, 0, 0, []), some (.iload_n 3, 1, 0, 0, []), some (.if_icmp .lt 5, 3, 29, 0, []), none, none, some (.iconst (-1), 1, 0, 0, []), some (.ireturn, 1, 0, 0, []), some (.aload_n 0, 1, 0, 0, []), some (.iload_n 1, 1, 0, 0, []), some (.iload_n 2, 1, 0, 0, []), some (.iload_n 3, 1, 0, 0, []), some (.invokestatic 95, 3, 3203, 4, []), none, none, some (.ireturn, 1, 0, 0, [])]
def kJ1_indexOfChar_4cfef : List (Option zi_I) := [some (.iload_n 1, 1, 0, 0, []), some (.i2b, 1, 0, 0, []), some (.istore 4, 2, 0, 0, []), none, some (.iload_n 2, 1, 0, 0, []), some (.istore 5, 2, 0, 0, []), none, some (.iload 5, 2, 0, 0, []), none, some (.iload_n 3, 1, 0, 0, []), some (.if_icmp .ge 21, 3, 31, 0, []), none, none, some (.aload_n 0, 1, 0, 0, []), some (.iload 5, 2, 0, 0, []), none, some (.baload, 1, 0, 0, []), some (.iload 4, 2, 0, 0, []), none, some (.if_icmp .ne 6, 3, 25, 0, []), none, none, some (.iload 5, 2, 0, 0, []), none, some (.ireturn, 1, 0, 0, []), some (.iinc 5 1, 3, 0, 0, []), none, none, some (.goto (-21), 3, 7, 0, []), none, none, some (.iconst (-1), 1, 0, 0, []), some (.ireturn, 1, 0, 0, [])]
end
section
/-! ===== printed: the methods, the code by number, the links ===== -/
def zi_kod_0 (j : Nat) : List (Option zi_I) := match j with
  | 0 => kX0_init
  | 1 => kX0_hasLock
  | 2 => kX0_hasPlace
  | 3 => kX0_hasSinger
  | 4 => kX0_hasBarge
  | 5 => kX0_many
  | 6 => kX0_room
  | 7 => kX0_grow
  | 8 => kX0_readLine
  | 9 => kX0_readLock
  | 10 => kX0_readSinger
  | 11 => kX0_readBarge
  | 12 => kX0_readPlace
  | 13 => kX0_takeFees
  | 14 => kX0_narrowed
  | 15 => kX0_crewOf
  | 16 => kX0_freeAt
  | 17 => kX0_tiredOf
  | 18 => kX0_feesOf
  | 19 => kX0_ableToSing
  | 20 => kX0_chordBits
  | _ => []
def zi_kod_1 (j : Nat) : List (Option zi_I) := match j with
  | 0 => kX1_init
  | 1 => kX1_gather
  | 2 => kX1_placeOf
  | 3 => kX1_canSing
  | 4 => kX1_settle
  | 5 => kX1_firstFor
  | 6 => kX1_mostNotes
  | 7 => kX1_fewestMissed
  | _ => []
def zi_kod_2 (j : Nat) : List (Option zi_I) := match j with
  | 0 => kX2_init
  | 1 => kX2_begin
  | 2 => kX2_mustSing
  | 3 => kX2_cheapest
  | 4 => kX2_isBetter
  | _ => []
def zi_kod_3 (j : Nat) : List (Option zi_I) := match j with
  | 0 => kX3_init
  | 1 => kX3_copy
  | 2 => kX3_levelOf
  | 3 => kX3_setLevel
  | 4 => kX3_whereIs
  | 5 => kX3_letGoBy
  | _ => []
def zi_kod_4 (j : Nat) : List (Option zi_I) := match j with
  | 0 => kX4_init
  | 1 => kX4_size
  | 2 => kX4_clear
  | 3 => kX4_note
  | 4 => kX4_hasInRange
  | 5 => kX4_fitting
  | 6 => kX4_leftAtMost
  | 7 => kX4_parting
  | 8 => kX4_findPairs
  | 9 => kX4_allApart
  | 10 => kX4_markPair
  | 11 => kX4_partingBy
  | _ => []
def zi_kod_5 (j : Nat) : List (Option zi_I) := match j with
  | 0 => kX5_init
  | 1 => kX5_size
  | 2 => kX5_at
  | 3 => kX5_clear
  | 4 => kX5_add
  | 5 => kX5_tell
  | _ => []
def zi_kod_6 (j : Nat) : List (Option zi_I) := match j with
  | 0 => kX6_init
  | 1 => kX6_size
  | 2 => kX6_clear
  | 3 => kX6_add
  | 4 => kX6_takeBack
  | _ => []
def zi_kod_7 (j : Nat) : List (Option zi_I) := match j with
  | 0 => kX7_init
  | 1 => kX7_read
  | 2 => kX7_put
  | 3 => kX7_minutes
  | 4 => kX7_comparison
  | 5 => kX7_sum
  | 6 => kX7_product
  | 7 => kX7_negated
  | 8 => kX7_thing
  | 9 => kX7_emit
  | 10 => kX7_worth
  | 11 => kX7_joined
  | _ => []
def zi_kod_8 (j : Nat) : List (Option zi_I) := match j with
  | 0 => kX8_init
  | 1 => kX8_length
  | 2 => kX8_addFour
  | 3 => kX8_cutTo
  | 4 => kX8_clear
  | 5 => kX8_open
  | 6 => kX8_look
  | 7 => kX8_step
  | 8 => kX8_over
  | 9 => kX8_fault
  | 10 => kX8_take
  | 11 => kX8_takeNumber
  | _ => []
def zi_kod_9 (j : Nat) : List (Option zi_I) := match j with
  | 0 => kX9_init
  | 1 => kX9_way
  | 2 => kX9_lockAhead
  | 3 => kX9_hindrance
  | 4 => kX9_waterFor
  | 5 => kX9_go
  | 6 => kX9_minutesFor
  | 7 => kX9_travel
  | 8 => kX9_findWays
  | 9 => kX9_chordAhead
  | 10 => kX9_keptBy
  | _ => []
def zi_kod_10 (j : Nat) : List (Option zi_I) := match j with
  | 0 => kX10_init
  | 1 => kX10_read
  | 2 => kX10_order
  | 3 => kX10_goesUpNext
  | 4 => kX10_findCosts
  | 5 => kX10_costNext
  | 6 => kX10_upCost
  | 7 => kX10_downCost
  | 8 => kX10_costAfter
  | 9 => kX10_slot
  | _ => []
def zi_kod_11 (j : Nat) : List (Option zi_I) := match j with
  | 0 => kX11_init
  | 1 => kX11_sign
  | 2 => kX11_end
  | 3 => kX11_locks
  | 4 => kX11_singers
  | 5 => kX11_barges
  | 6 => kX11_rule
  | 7 => kX11_lock
  | 8 => kX11_singer
  | 9 => kX11_barge
  | 10 => kX11_set
  | 11 => kX11_sheet
  | 12 => kX11_tellOf
  | 13 => kX11_readLines
  | 14 => kX11_hire
  | 15 => kX11_leave
  | 16 => kX11_pass
  | 17 => kX11_rest
  | 18 => kX11_day
  | 19 => kX11_undo
  | 20 => kX11_remember
  | 21 => kX11_takeOn
  | 22 => kX11_letGo
  | 23 => kX11_takeRest
  | 24 => kX11_readActs
  | 25 => kX11_readAct
  | 26 => kX11_isPass
  | 27 => kX11_perform
  | 28 => kX11_sings
  | 29 => kX11_lacks
  | 30 => kX11_spoils
  | 31 => kX11_shift
  | 32 => kX11_voices
  | 33 => kX11_singsShifted
  | 34 => kX11_tellSong
  | 35 => kX11_tellHired
  | 36 => kX11_journey
  | 37 => kX11_hires
  | 38 => kX11_rested
  | 39 => kX11_queue
  | 40 => kX11_jams
  | 41 => kX11_heard
  | 42 => kX11_forget
  | 43 => kX11_who
  | 44 => kX11_listen
  | 45 => kX11_parts
  | 46 => kX11_opens
  | 47 => kX11_tries
  | 48 => kX11_rests
  | 49 => kX11_pays
  | 50 => kX11_tellFirstPair
  | 51 => kX11_chances
  | 52 => kX11_power
  | 53 => kX11_commonDivisor
  | 54 => kX11_isBest
  | 55 => kX11_gain
  | 56 => kX11_days
  | 57 => kX11_drawNext
  | 58 => kX11_keep
  | 59 => kX11_again
  | 60 => kX11_count
  | 61 => kX11_row
  | _ => []
def zi_kod_12 (j : Nat) : List (Option zi_I) := match j with
  | 0 => kX12_init
  | 1 => kX12_thrown
  | 2 => kX12_refuse
  | 3 => kX12_in
  | 4 => kX12_has
  | 5 => kX12_flag
  | 6 => kX12_common
  | 7 => kX12_enters
  | 8 => kX12_isLock
  | 9 => kX12_isSinger
  | 10 => kX12_isBarge
  | 11 => kX12_isPlace
  | 12 => kX12_placeOf
  | 13 => kX12_crewOf
  | 14 => kX12_tiredOf
  | 15 => kX12_crew
  | 16 => kX12_whereIs
  | 17 => kX12_sign
  | 18 => kX12_end
  | 19 => kX12_begins
  | 20 => kX12_takes
  | 21 => kX12_isDigit
  | 22 => kX12_among
  | 23 => kX12_takesOf
  | 24 => kX12_number
  | 25 => kX12_signIn
  | 26 => kX12_faultOf
  | 27 => kX12_readsLock
  | 28 => kX12_readsSinger
  | 29 => kX12_readsBarge
  | 30 => kX12_readsLines
  | 31 => kX12_came
  | 32 => kX12_locks
  | 33 => kX12_singers
  | 34 => kX12_barges
  | 35 => kX12_codes
  | 36 => kX12_readsThing
  | 37 => kX12_readsRank
  | 38 => kX12_rule
  | 39 => kX12_worked
  | 40 => kX12_ruled
  | 41 => kX12_tiredAll
  | 42 => kX12_minutes
  | 43 => kX12_laysNotes
  | 44 => kX12_canSing
  | 45 => kX12_singsFrom
  | 46 => kX12_singsChord
  | 47 => kX12_tellsSung
  | 48 => kX12_lock
  | 49 => kX12_singer
  | 50 => kX12_barge
  | 51 => kX12_set
  | 52 => kX12_sheet
  | 53 => kX12_putsBy
  | 54 => kX12_adds
  | 55 => kX12_counts
  | 56 => kX12_undo
  | 57 => kX12_hiresTo
  | 58 => kX12_leaves
  | 59 => kX12_waterFor
  | 60 => kX12_whyNot
  | 61 => kX12_passes
  | 62 => kX12_restsFor
  | 63 => kX12_hire
  | 64 => kX12_leave
  | 65 => kX12_pass
  | 66 => kX12_rest
  | 67 => kX12_readsAct
  | 68 => kX12_does
  | 69 => kX12_day
  | 70 => kX12_isPair
  | 71 => kX12_sings
  | 72 => kX12_lacks
  | 73 => kX12_spoils
  | 74 => kX12_isShift
  | 75 => kX12_shift
  | 76 => kX12_fees
  | 77 => kX12_isCheaper
  | 78 => kX12_voicesOf
  | 79 => kX12_freeAt
  | 80 => kX12_voices
  | 81 => kX12_puts
  | 82 => kX12_goesTo
  | 83 => kX12_journey
  | 84 => kX12_singsAll
  | 85 => kX12_hires
  | 86 => kX12_rested
  | 87 => kX12_spot
  | 88 => kX12_costOf
  | 89 => kX12_yetBy
  | 90 => kX12_laysQueue
  | 91 => kX12_queue
  | 92 => kX12_passing
  | 93 => kX12_jams
  | 94 => kX12_heard
  | 95 => kX12_forget
  | 96 => kX12_singersOf
  | 97 => kX12_fitting
  | 98 => kX12_who
  | 99 => kX12_listen
  | 100 => kX12_isParted
  | 101 => kX12_partsBy
  | 102 => kX12_parts
  | 103 => kX12_bets
  | 104 => kX12_opens
  | 105 => kX12_tries
  | 106 => kX12_earns
  | 107 => kX12_isRest
  | 108 => kX12_rests
  | 109 => kX12_pays
  | 110 => kX12_days
  | 111 => kX12_keep
  | 112 => kX12_again
  | 113 => kX12_levels
  | 114 => kX12_count
  | 115 => kX12_row
  | _ => []
def zi_kod_14 (j : Nat) : List (Option zi_I) := match j with
  | 0 => kJ6_bitCount_0f7a4
  | _ => []
def zi_kod_15 (j : Nat) : List (Option zi_I) := match j with
  | 0 => kJ0_length_8abf5
  | 1 => kJ0_charAt_5068e
  | 2 => kJ0_indexOf_0f7a4
  | 3 => kJ0_indexOf_7cf53
  | 4 => kJ0_coder_7d493
  | 5 => kJ0_isLatin1_aae02
  | _ => []
def zi_kod_16 (j : Nat) : List (Option zi_I) := match j with
  | 0 => kJ1_charAt_3b067
  | 1 => kJ1_canEncode_9a6ad
  | 2 => kJ1_indexOf_4cfef
  | 3 => kJ1_indexOfChar_4cfef
  | _ => []
def zi_kod (x : Nat) : List (Option zi_I) := match x / 200 with
  | 0 => zi_kod_0 (x % 200)
  | 1 => zi_kod_1 (x % 200)
  | 2 => zi_kod_2 (x % 200)
  | 3 => zi_kod_3 (x % 200)
  | 4 => zi_kod_4 (x % 200)
  | 5 => zi_kod_5 (x % 200)
  | 6 => zi_kod_6 (x % 200)
  | 7 => zi_kod_7 (x % 200)
  | 8 => zi_kod_8 (x % 200)
  | 9 => zi_kod_9 (x % 200)
  | 10 => zi_kod_10 (x % 200)
  | 11 => zi_kod_11 (x % 200)
  | 12 => zi_kod_12 (x % 200)
  | 14 => zi_kod_14 (x % 200)
  | 15 => zi_kod_15 (x % 200)
  | 16 => zi_kod_16 (x % 200)
  | _ => []
def zi_P (x pc : Nat) : Option zi_I := ((zi_kod x)[pc]?).join
def zi_ml_0 : List (Nat × zi_MI) := [(0, (yX0_init, cX0_init, 1, 0, 0)), (1, (yX0_hasLock, cX0_hasLock, 2, 2, 1)), (2, (yX0_hasPlace, cX0_hasPlace, 2, 2, 1)), (3, (yX0_hasSinger, cX0_hasSinger, 2, 2, 1)), (4, (yX0_hasBarge, cX0_hasBarge, 2, 2, 1)), (5, (yX0_many, cX0_many, 2, 1, 1)), (6, (yX0_room, cX0_room, 2, 1, 1)), (7, (yX0_grow, cX0_grow, 3, 0, 2)), (8, (yX0_readLine, cX0_readLine, 5, 2, 4)), (9, (yX0_readLock, cX0_readLock, 5, 2, 2)), (10, (yX0_readSinger, cX0_readSinger, 7, 2, 3)), (11, (yX0_readBarge, cX0_readBarge, 5, 2, 3)), (12, (yX0_readPlace, cX0_readPlace, 3, 1, 1)), (13, (yX0_takeFees, cX0_takeFees, 8, 1, 4)), (14, (yX0_narrowed, cX0_narrowed, 2, 1, 2)), (15, (yX0_crewOf, cX0_crewOf, 5, 1, 2)), (16, (yX0_freeAt, cX0_freeAt, 5, 1, 2)), (17, (yX0_tiredOf, cX0_tiredOf, 5, 1, 2)), (18, (yX0_feesOf, cX0_feesOf, 4, 1, 1)), (19, (yX0_ableToSing, cX0_ableToSing, 5, 1, 2)), (20, (yX0_chordBits, cX0_chordBits, 4, 1, 1))]
def zi_ml_1 : List (Nat × zi_MI) := [(200, (yX1_init, cX1_init, 2, 0, 1)), (201, (yX1_gather, cX1_gather, 6, 0, 3)), (202, (yX1_placeOf, cX1_placeOf, 1, 1, 1)), (203, (yX1_canSing, cX1_canSing, 5, 2, 2)), (204, (yX1_settle, cX1_settle, 5, 2, 1)), (205, (yX1_firstFor, cX1_firstFor, 6, 1, 3)), (206, (yX1_mostNotes, cX1_mostNotes, 4, 1, 1)), (207, (yX1_fewestMissed, cX1_fewestMissed, 5, 1, 1))]
def zi_ml_2 : List (Nat × zi_MI) := [(400, (yX2_init, cX2_init, 3, 0, 2)), (401, (yX2_begin, cX2_begin, 2, 0, 0)), (402, (yX2_mustSing, cX2_mustSing, 6, 0, 4)), (403, (yX2_cheapest, cX2_cheapest, 4, 1, 1)), (404, (yX2_isBetter, cX2_isBetter, 5, 2, 2))]
def zi_ml_3 : List (Nat × zi_MI) := [(600, (yX3_init, cX3_init, 1, 0, 0)), (601, (yX3_copy, cX3_copy, 2, 0, 1)), (602, (yX3_levelOf, cX3_levelOf, 2, 1, 1)), (603, (yX3_setLevel, cX3_setLevel, 3, 0, 2)), (604, (yX3_whereIs, cX3_whereIs, 3, 1, 1)), (605, (yX3_letGoBy, cX3_letGoBy, 4, 0, 1))]
def zi_ml_4 : List (Nat × zi_MI) := [(800, (yX4_init, cX4_init, 2, 0, 1)), (801, (yX4_size, cX4_size, 1, 1, 0)), (802, (yX4_clear, cX4_clear, 1, 0, 0)), (803, (yX4_note, cX4_note, 3, 2, 2)), (804, (yX4_hasInRange, cX4_hasInRange, 3, 2, 2)), (805, (yX4_fitting, cX4_fitting, 5, 1, 0)), (806, (yX4_leftAtMost, cX4_leftAtMost, 7, 1, 2)), (807, (yX4_parting, cX4_parting, 3, 1, 0)), (808, (yX4_findPairs, cX4_findPairs, 5, 0, 1)), (809, (yX4_allApart, cX4_allApart, 3, 2, 0)), (810, (yX4_markPair, cX4_markPair, 5, 0, 3)), (811, (yX4_partingBy, cX4_partingBy, 6, 1, 3))]
def zi_ml_5 : List (Nat × zi_MI) := [(1000, (yX5_init, cX5_init, 1, 0, 0)), (1001, (yX5_size, cX5_size, 1, 1, 0)), (1002, (yX5_at, cX5_at, 2, 3, 1)), (1003, (yX5_clear, cX5_clear, 1, 0, 0)), (1004, (yX5_add, cX5_add, 3, 0, 1)), (1005, (yX5_tell, cX5_tell, 3, 0, 1))]
def zi_ml_6 : List (Nat × zi_MI) := [(1200, (yX6_init, cX6_init, 2, 0, 0)), (1201, (yX6_size, cX6_size, 1, 1, 0)), (1202, (yX6_clear, cX6_clear, 1, 0, 0)), (1203, (yX6_add, cX6_add, 2, 0, 1)), (1204, (yX6_takeBack, cX6_takeBack, 2, 2, 1))]
def zi_ml_7 : List (Nat × zi_MI) := [(1400, (yX7_init, cX7_init, 1, 0, 0)), (1401, (yX7_read, cX7_read, 2, 1, 1)), (1402, (yX7_put, cX7_put, 3, 0, 2)), (1403, (yX7_minutes, cX7_minutes, 2, 1, 0)), (1404, (yX7_comparison, cX7_comparison, 4, 2, 2)), (1405, (yX7_sum, cX7_sum, 6, 2, 2)), (1406, (yX7_product, cX7_product, 6, 2, 2)), (1407, (yX7_negated, cX7_negated, 5, 2, 2)), (1408, (yX7_thing, cX7_thing, 5, 2, 2)), (1409, (yX7_emit, cX7_emit, 2, 2, 1)), (1410, (yX7_worth, cX7_worth, 5, 1, 0)), (1411, (yX7_joined, cX7_joined, 3, 1, 3))]
def zi_ml_8 : List (Nat × zi_MI) := [(1600, (yX8_init, cX8_init, 1, 0, 0)), (1601, (yX8_length, cX8_length, 1, 1, 0)), (1602, (yX8_addFour, cX8_addFour, 3, 2, 1)), (1603, (yX8_cutTo, cX8_cutTo, 2, 2, 1)), (1604, (yX8_clear, cX8_clear, 1, 0, 0)), (1605, (yX8_open, cX8_open, 2, 0, 1)), (1606, (yX8_look, cX8_look, 1, 1, 0)), (1607, (yX8_step, cX8_step, 1, 0, 0)), (1608, (yX8_over, cX8_over, 1, 2, 0)), (1609, (yX8_fault, cX8_fault, 1, 1, 0)), (1610, (yX8_take, cX8_take, 4, 1, 2)), (1611, (yX8_takeNumber, cX8_takeNumber, 5, 1, 1))]
def zi_ml_9 : List (Nat × zi_MI) := [(1800, (yX9_init, cX9_init, 3, 0, 2)), (1801, (yX9_way, cX9_way, 4, 1, 3)), (1802, (yX9_lockAhead, cX9_lockAhead, 5, 1, 3)), (1803, (yX9_hindrance, cX9_hindrance, 5, 1, 3)), (1804, (yX9_waterFor, cX9_waterFor, 3, 1, 3)), (1805, (yX9_go, cX9_go, 9, 1, 3)), (1806, (yX9_minutesFor, cX9_minutesFor, 7, 1, 4)), (1807, (yX9_travel, cX9_travel, 7, 1, 3)), (1808, (yX9_findWays, cX9_findWays, 3, 0, 1)), (1809, (yX9_chordAhead, cX9_chordAhead, 5, 1, 3)), (1810, (yX9_keptBy, cX9_keptBy, 7, 1, 1))]
def zi_ml_10 : List (Nat × zi_MI) := [(2000, (yX10_init, cX10_init, 1, 0, 0)), (2001, (yX10_read, cX10_read, 3, 1, 1)), (2002, (yX10_order, cX10_order, 8, 1, 2)), (2003, (yX10_goesUpNext, cX10_goesUpNext, 6, 2, 3)), (2004, (yX10_findCosts, cX10_findCosts, 4, 0, 0)), (2005, (yX10_costNext, cX10_costNext, 5, 1, 3)), (2006, (yX10_upCost, cX10_upCost, 4, 1, 3)), (2007, (yX10_downCost, cX10_downCost, 4, 1, 3)), (2008, (yX10_costAfter, cX10_costAfter, 4, 1, 3)), (2009, (yX10_slot, cX10_slot, 3, 1, 3))]
def zi_ml_11 : List (Nat × zi_MI) := [(2200, (yX11_init, cX11_init, 2, 0, 0)), (2201, (yX11_sign, cX11_sign, 2, 1, 1)), (2202, (yX11_end, cX11_end, 2, 2, 1)), (2203, (yX11_locks, cX11_locks, 1, 1, 0)), (2204, (yX11_singers, cX11_singers, 1, 1, 0)), (2205, (yX11_barges, cX11_barges, 1, 1, 0)), (2206, (yX11_rule, cX11_rule, 2, 1, 0)), (2207, (yX11_lock, cX11_lock, 3, 1, 2)), (2208, (yX11_singer, cX11_singer, 3, 1, 2)), (2209, (yX11_barge, cX11_barge, 3, 1, 2)), (2210, (yX11_set, cX11_set, 4, 1, 2)), (2211, (yX11_sheet, cX11_sheet, 5, 1, 4)), (2212, (yX11_tellOf, cX11_tellOf, 4, 1, 2)), (2213, (yX11_readLines, cX11_readLines, 5, 1, 1)), (2214, (yX11_hire, cX11_hire, 3, 1, 2)), (2215, (yX11_leave, cX11_leave, 2, 1, 1)), (2216, (yX11_pass, cX11_pass, 4, 1, 2)), (2217, (yX11_rest, cX11_rest, 2, 1, 1)), (2218, (yX11_day, cX11_day, 6, 1, 0)), (2219, (yX11_undo, cX11_undo, 1, 1, 0)), (2220, (yX11_remember, cX11_remember, 2, 1, 1)), (2221, (yX11_takeOn, cX11_takeOn, 3, 1, 2)), (2222, (yX11_letGo, cX11_letGo, 3, 1, 1)), (2223, (yX11_takeRest, cX11_takeRest, 2, 1, 1)), (2224, (yX11_readActs, cX11_readActs, 3, 1, 0)), (2225, (yX11_readAct, cX11_readAct, 4, 1, 0)), (2226, (yX11_isPass, cX11_isPass, 2, 2, 1)), (2227, (yX11_perform, cX11_perform, 3, 1, 1)), (2228, (yX11_sings, cX11_sings, 3, 1, 2)), (2229, (yX11_lacks, cX11_lacks, 4, 1, 2)), (2230, (yX11_spoils, cX11_spoils, 4, 1, 2)), (2231, (yX11_shift, cX11_shift, 5, 1, 2)), (2232, (yX11_voices, cX11_voices, 4, 1, 2)), (2233, (yX11_singsShifted, cX11_singsShifted, 4, 2, 3)), (2234, (yX11_tellSong, cX11_tellSong, 2, 0, 0)), (2235, (yX11_tellHired, cX11_tellHired, 2, 1, 1)), (2236, (yX11_journey, cX11_journey, 4, 1, 2)), (2237, (yX11_hires, cX11_hires, 8, 1, 2)), (2238, (yX11_rested, cX11_rested, 5, 1, 2)), (2239, (yX11_queue, cX11_queue, 3, 1, 1)), (2240, (yX11_jams, cX11_jams, 7, 1, 0)), (2241, (yX11_heard, cX11_heard, 3, 1, 2)), (2242, (yX11_forget, cX11_forget, 2, 1, 0)), (2243, (yX11_who, cX11_who, 2, 1, 0)), (2244, (yX11_listen, cX11_listen, 6, 1, 0)), (2245, (yX11_parts, cX11_parts, 2, 1, 0)), (2246, (yX11_opens, cX11_opens, 9, 1, 2)), (2247, (yX11_tries, cX11_tries, 4, 1, 2)), (2248, (yX11_rests, cX11_rests, 5, 1, 1)), (2249, (yX11_pays, cX11_pays, 9, 1, 2)), (2250, (yX11_tellFirstPair, cX11_tellFirstPair, 4, 0, 3)), (2251, (yX11_chances, cX11_chances, 4, 3, 2)), (2252, (yX11_power, cX11_power, 6, 3, 2)), (2253, (yX11_commonDivisor, cX11_commonDivisor, 7, 3, 2)), (2254, (yX11_isBest, cX11_isBest, 5, 2, 3)), (2255, (yX11_gain, cX11_gain, 3, 1, 3)), (2256, (yX11_days, cX11_days, 8, 1, 2)), (2257, (yX11_drawNext, cX11_drawNext, 1, 1, 1)), (2258, (yX11_keep, cX11_keep, 2, 2, 1)), (2259, (yX11_again, cX11_again, 2, 2, 1)), (2260, (yX11_count, cX11_count, 2, 1, 1)), (2261, (yX11_row, cX11_row, 2, 3, 1))]
def zi_ml_12 : List (Nat × zi_MI) := [(2400, (yX12_init, cX12_init, 1, 0, 0)), (2401, (yX12_thrown, cX12_thrown, 1, 1, 0)), (2402, (yX12_refuse, cX12_refuse, 1, 1, 0)), (2403, (yX12_in, cX12_in, 6, 2, 3)), (2404, (yX12_has, cX12_has, 2, 2, 2)), (2405, (yX12_flag, cX12_flag, 1, 1, 1)), (2406, (yX12_common, cX12_common, 4, 3, 2)), (2407, (yX12_enters, cX12_enters, 3, 0, 1)), (2408, (yX12_isLock, cX12_isLock, 2, 2, 1)), (2409, (yX12_isSinger, cX12_isSinger, 2, 2, 1)), (2410, (yX12_isBarge, cX12_isBarge, 2, 2, 1)), (2411, (yX12_isPlace, cX12_isPlace, 2, 2, 1)), (2412, (yX12_placeOf, cX12_placeOf, 2, 1, 2)), (2413, (yX12_crewOf, cX12_crewOf, 2, 1, 2)), (2414, (yX12_tiredOf, cX12_tiredOf, 2, 1, 2)), (2415, (yX12_crew, cX12_crew, 5, 1, 2)), (2416, (yX12_whereIs, cX12_whereIs, 3, 1, 1)), (2417, (yX12_sign, cX12_sign, 3, 1, 1)), (2418, (yX12_end, cX12_end, 2, 2, 1)), (2419, (yX12_begins, cX12_begins, 3, 1, 1)), (2420, (yX12_takes, cX12_takes, 3, 2, 1)), (2421, (yX12_isDigit, cX12_isDigit, 1, 2, 0)), (2422, (yX12_among, cX12_among, 3, 1, 1)), (2423, (yX12_takesOf, cX12_takesOf, 3, 1, 1)), (2424, (yX12_number, cX12_number, 4, 1, 1)), (2425, (yX12_signIn, cX12_signIn, 4, 1, 3)), (2426, (yX12_faultOf, cX12_faultOf, 5, 1, 3)), (2427, (yX12_readsLock, cX12_readsLock, 3, 2, 0)), (2428, (yX12_readsSinger, cX12_readsSinger, 2, 2, 0)), (2429, (yX12_readsBarge, cX12_readsBarge, 2, 2, 0)), (2430, (yX12_readsLines, cX12_readsLines, 6, 1, 2)), (2431, (yX12_came, cX12_came, 1, 1, 0)), (2432, (yX12_locks, cX12_locks, 4, 1, 0)), (2433, (yX12_singers, cX12_singers, 3, 1, 0)), (2434, (yX12_barges, cX12_barges, 3, 1, 0)), (2435, (yX12_codes, cX12_codes, 2, 0, 1)), (2436, (yX12_readsThing, cX12_readsThing, 2, 2, 0)), (2437, (yX12_readsRank, cX12_readsRank, 4, 2, 1)), (2438, (yX12_rule, cX12_rule, 5, 1, 0)), (2439, (yX12_worked, cX12_worked, 3, 1, 3)), (2440, (yX12_ruled, cX12_ruled, 4, 1, 0)), (2441, (yX12_tiredAll, cX12_tiredAll, 5, 1, 2)), (2442, (yX12_minutes, cX12_minutes, 6, 1, 4)), (2443, (yX12_laysNotes, cX12_laysNotes, 4, 0, 2)), (2444, (yX12_canSing, cX12_canSing, 4, 2, 3)), (2445, (yX12_singsFrom, cX12_singsFrom, 6, 2, 4)), (2446, (yX12_singsChord, cX12_singsChord, 4, 2, 3)), (2447, (yX12_tellsSung, cX12_tellsSung, 2, 0, 0)), (2448, (yX12_lock, cX12_lock, 3, 1, 2)), (2449, (yX12_singer, cX12_singer, 3, 1, 2)), (2450, (yX12_barge, cX12_barge, 3, 1, 2)), (2451, (yX12_set, cX12_set, 4, 1, 2)), (2452, (yX12_sheet, cX12_sheet, 9, 1, 4)), (2453, (yX12_putsBy, cX12_putsBy, 2, 0, 0)), (2454, (yX12_adds, cX12_adds, 3, 1, 1)), (2455, (yX12_counts, cX12_counts, 2, 1, 1)), (2456, (yX12_undo, cX12_undo, 2, 1, 0)), (2457, (yX12_hiresTo, cX12_hiresTo, 5, 1, 3)), (2458, (yX12_leaves, cX12_leaves, 4, 1, 2)), (2459, (yX12_waterFor, cX12_waterFor, 2, 1, 2)), (2460, (yX12_whyNot, cX12_whyNot, 5, 1, 3)), (2461, (yX12_passes, cX12_passes, 9, 1, 3)), (2462, (yX12_restsFor, cX12_restsFor, 5, 0, 2)), (2463, (yX12_hire, cX12_hire, 3, 1, 2)), (2464, (yX12_leave, cX12_leave, 2, 1, 1)), (2465, (yX12_pass, cX12_pass, 4, 1, 2)), (2466, (yX12_rest, cX12_rest, 2, 1, 1)), (2467, (yX12_readsAct, cX12_readsAct, 2, 2, 0)), (2468, (yX12_does, cX12_does, 4, 2, 1)), (2469, (yX12_day, cX12_day, 6, 1, 0)), (2470, (yX12_isPair, cX12_isPair, 3, 2, 2)), (2471, (yX12_sings, cX12_sings, 4, 1, 2)), (2472, (yX12_lacks, cX12_lacks, 6, 1, 2)), (2473, (yX12_spoils, cX12_spoils, 7, 1, 2)), (2474, (yX12_isShift, cX12_isShift, 6, 2, 3)), (2475, (yX12_shift, cX12_shift, 5, 1, 2)), (2476, (yX12_fees, cX12_fees, 4, 1, 1)), (2477, (yX12_isCheaper, cX12_isCheaper, 3, 2, 2)), (2478, (yX12_voicesOf, cX12_voicesOf, 7, 1, 3)), (2479, (yX12_freeAt, cX12_freeAt, 4, 1, 1)), (2480, (yX12_voices, cX12_voices, 4, 1, 2)), (2481, (yX12_puts, cX12_puts, 2, 0, 0)), (2482, (yX12_goesTo, cX12_goesTo, 4, 1, 2)), (2483, (yX12_journey, cX12_journey, 4, 1, 2)), (2484, (yX12_singsAll, cX12_singsAll, 9, 2, 3)), (2485, (yX12_hires, cX12_hires, 7, 1, 2)), (2486, (yX12_rested, cX12_rested, 5, 1, 2)), (2487, (yX12_spot, cX12_spot, 3, 1, 3)), (2488, (yX12_costOf, cX12_costOf, 2, 1, 2)), (2489, (yX12_yetBy, cX12_yetBy, 5, 1, 4)), (2490, (yX12_laysQueue, cX12_laysQueue, 5, 0, 0)), (2491, (yX12_queue, cX12_queue, 10, 1, 1)), (2492, (yX12_passing, cX12_passing, 3, 1, 0)), (2493, (yX12_jams, cX12_jams, 9, 1, 0)), (2494, (yX12_heard, cX12_heard, 3, 1, 2)), (2495, (yX12_forget, cX12_forget, 2, 1, 0)), (2496, (yX12_singersOf, cX12_singersOf, 4, 1, 1)), (2497, (yX12_fitting, cX12_fitting, 3, 1, 0)), (2498, (yX12_who, cX12_who, 2, 1, 0)), (2499, (yX12_listen, cX12_listen, 6, 1, 0)), (2500, (yX12_isParted, cX12_isParted, 8, 2, 2)), (2501, (yX12_partsBy, cX12_partsBy, 7, 1, 4)), (2502, (yX12_parts, cX12_parts, 4, 1, 0)), (2503, (yX12_bets, cX12_bets, 8, 0, 2)), (2504, (yX12_opens, cX12_opens, 5, 1, 2)), (2505, (yX12_tries, cX12_tries, 4, 1, 2)), (2506, (yX12_earns, cX12_earns, 3, 1, 3)), (2507, (yX12_isRest, cX12_isRest, 5, 2, 3)), (2508, (yX12_rests, cX12_rests, 5, 1, 1)), (2509, (yX12_pays, cX12_pays, 9, 1, 2)), (2510, (yX12_days, cX12_days, 8, 1, 2)), (2511, (yX12_keep, cX12_keep, 3, 2, 1)), (2512, (yX12_again, cX12_again, 3, 2, 1)), (2513, (yX12_levels, cX12_levels, 3, 1, 0)), (2514, (yX12_count, cX12_count, 2, 1, 1)), (2515, (yX12_row, cX12_row, 2, 3, 1))]
def zi_ml_14 : List (Nat × zi_MI) := [(2800, (yJ6_bitCount_0f7a4, cJ6_bitCount_0f7a4, 1, 1, 1))]
def zi_ml_15 : List (Nat × zi_MI) := [(3000, (yJ0_length_8abf5, cJ0_length_8abf5, 1, 1, 0)), (3001, (yJ0_charAt_5068e, cJ0_charAt_5068e, 2, 4, 1)), (3002, (yJ0_indexOf_0f7a4, cJ0_indexOf_0f7a4, 2, 1, 1)), (3003, (yJ0_indexOf_7cf53, cJ0_indexOf_7cf53, 3, 1, 2)), (3004, (yJ0_coder_7d493, cJ0_coder_7d493, 1, 5, 0)), (3005, (yJ0_isLatin1_aae02, cJ0_isLatin1_aae02, 1, 2, 0))]
def zi_ml_16 : List (Nat × zi_MI) := [(3200, (yJ1_charAt_3b067, cJ1_charAt_3b067, 2, 4, 2)), (3201, (yJ1_canEncode_9a6ad, cJ1_canEncode_9a6ad, 1, 2, 1)), (3202, (yJ1_indexOf_4cfef, cJ1_indexOf_4cfef, 4, 1, 4)), (3203, (yJ1_indexOfChar_4cfef, cJ1_indexOfChar_4cfef, 6, 1, 4))]
def zi_ml : List (Nat × zi_MI) := zi_ml_0 ++ zi_ml_1 ++ zi_ml_2 ++ zi_ml_3 ++ zi_ml_4 ++ zi_ml_5 ++ zi_ml_6 ++ zi_ml_7 ++ zi_ml_8 ++ zi_ml_9 ++ zi_ml_10 ++ zi_ml_11 ++ zi_ml_12 ++ zi_ml_14 ++ zi_ml_15 ++ zi_ml_16
def zi_M (x : Nat) : Option zi_MI := (zi_ml.find? fun q => Nat.beq q.1 x).map fun q => q.2
def zi_FT : List (Nat × Nat × Nat × Nat) := [(0, 18, 0, 1), (0, 22, 0, 2), (0, 25, 0, 3), (0, 28, 0, 4), (0, 31, 0, 5), (0, 34, 0, 6), (0, 37, 0, 7), (0, 41, 0, 8), (0, 44, 0, 9), (0, 72, 3, 3), (0, 77, 3, 4), (0, 80, 3, 5), (0, 83, 3, 6), (0, 86, 3, 7), (0, 100, 0, 10), (1, 9, 1, 1), (1, 15, 1, 2), (1, 18, 1, 0), (1, 22, 0, 1), (2, 11, 2, 2), (2, 15, 2, 0), (2, 19, 2, 1), (3, 9, 3, 1), (3, 15, 3, 3), (3, 19, 3, 4), (3, 22, 3, 5), (3, 25, 3, 6), (3, 28, 3, 7), (3, 31, 3, 0), (3, 34, 3, 2), (4, 9, 4, 1), (4, 15, 4, 0), (4, 19, 4, 4), (4, 23, 4, 2), (4, 26, 4, 3), (4, 29, 0, 3), (4, 34, 0, 4), (4, 37, 0, 8), (4, 66, 4, 5), (5, 7, 5, 0), (5, 13, 5, 1), (6, 11, 6, 0), (6, 16, 6, 2), (6, 20, 6, 1), (7, 11, 7, 0), (7, 15, 7, 1), (7, 18, 7, 2), (7, 21, 7, 3), (7, 30, 7, 5), (7, 52, 7, 4), (8, 9, 8, 0), (8, 13, 8, 1), (8, 17, 8, 2), (8, 26, 8, 3), (9, 9, 9, 2), (9, 15, 9, 3), (9, 18, 9, 0), (9, 22, 9, 1), (9, 26, 3, 6), (9, 57, 3, 1), (9, 79, 3, 2), (9, 82, 1, 2), (9, 85, 3, 5), (9, 94, 0, 0), (9, 98, 0, 2), (9, 109, 0, 6), (9, 121, 9, 4), (9, 130, 0, 9), (10, 9, 10, 0), (10, 13, 10, 1), (10, 16, 10, 2), (10, 25, 10, 3), (10, 29, 10, 4), (11, 10, 11, 0), (11, 19, 11, 1), (11, 26, 11, 2), (11, 33, 11, 3), (11, 37, 11, 4), (11, 40, 11, 5), (11, 48, 11, 6), (11, 57, 11, 7), (11, 64, 11, 8), (11, 71, 11, 9), (11, 78, 11, 10), (11, 85, 11, 11), (11, 89, 11, 12), (11, 93, 11, 13), (11, 112, 0, 0), (11, 131, 0, 1), (11, 134, 0, 2), (11, 144, 0, 3), (11, 147, 0, 4), (11, 150, 0, 5), (11, 153, 3, 5), (11, 159, 3, 4), (11, 165, 3, 6), (11, 168, 0, 6), (11, 171, 3, 7), (11, 178, 3, 1), (11, 183, 0, 10), (11, 206, 11, 14), (11, 271, 3, 3), (11, 277, 3, 2), (11, 333, 1, 2), (11, 345, 9, 4), (11, 406, 0, 8), (11, 418, 0, 9), (11, 425, 3, 0), (12, 9, 12, 2), (12, 13, 12, 8), (12, 17, 12, 9), (12, 20, 12, 10), (12, 23, 12, 11), (12, 26, 12, 12), (12, 29, 12, 13), (12, 32, 12, 14), (12, 35, 12, 15), (12, 38, 12, 16), (12, 41, 12, 21), (12, 44, 12, 23), (12, 47, 12, 24), (12, 50, 12, 27), (12, 53, 12, 28), (12, 56, 12, 29), (12, 59, 12, 30), (12, 62, 12, 32), (12, 65, 12, 33), (12, 68, 12, 34), (12, 71, 12, 35), (12, 74, 12, 40), (12, 77, 12, 41), (12, 80, 12, 44), (12, 83, 12, 46), (12, 86, 12, 47), (12, 89, 12, 50), (12, 93, 12, 51), (12, 96, 12, 52), (12, 99, 12, 0), (12, 107, 12, 1), (12, 110, 12, 3), (12, 117, 12, 4), (12, 120, 12, 5), (12, 130, 12, 17), (12, 133, 12, 18), (12, 136, 12, 20), (12, 145, 12, 19), (12, 174, 12, 22), (12, 205, 12, 31), (12, 208, 12, 7), (12, 217, 12, 26), (12, 241, 12, 25), (12, 271, 12, 6), (12, 354, 12, 36), (12, 359, 12, 37), (12, 389, 12, 38), (12, 392, 12, 39), (12, 407, 12, 42), (12, 410, 12, 43), (12, 432, 12, 45), (12, 447, 12, 49), (12, 453, 12, 48), (15, 9, 15, 0), (15, 15, 15, 1)]
def zi_PN : List (Nat × Nat × Nat × Nat) := [(0, 37, 0, 7), (0, 41, 0, 8), (0, 44, 0, 9), (3, 9, 3, 1), (3, 31, 3, 0), (3, 34, 3, 2), (4, 19, 4, 4), (4, 23, 4, 2), (4, 26, 4, 3), (4, 66, 4, 5), (5, 13, 5, 1), (6, 16, 6, 2), (6, 20, 6, 1), (7, 30, 7, 5), (7, 52, 7, 4), (8, 13, 8, 1), (8, 17, 8, 2), (8, 26, 8, 3), (9, 57, 3, 1), (9, 79, 3, 2), (9, 121, 9, 4), (10, 25, 10, 3), (10, 29, 10, 4), (11, 178, 3, 1), (11, 183, 0, 10), (11, 206, 11, 14), (12, 99, 12, 0), (12, 107, 12, 1), (12, 110, 12, 3), (12, 117, 12, 4), (12, 120, 12, 5), (12, 130, 12, 17), (12, 133, 12, 18), (12, 136, 12, 20), (12, 145, 12, 19), (12, 174, 12, 22), (12, 205, 12, 31), (12, 208, 12, 7), (12, 217, 12, 26), (12, 241, 12, 25), (12, 271, 12, 6), (12, 354, 12, 36), (12, 359, 12, 37), (12, 389, 12, 38), (12, 392, 12, 39), (12, 407, 12, 42), (12, 410, 12, 43), (12, 432, 12, 45), (12, 447, 12, 49), (12, 453, 12, 48)]
def zi_PF : List (Nat × Nat × Nat × Nat) := [(0, 12, 0, 0), (0, 18, 0, 1), (0, 22, 0, 2), (0, 25, 0, 3), (0, 28, 0, 4), (0, 31, 0, 5), (0, 34, 0, 6), (1, 9, 1, 1), (1, 15, 1, 2), (1, 18, 1, 0), (2, 11, 2, 2), (2, 15, 2, 0), (2, 19, 2, 1), (3, 15, 3, 3), (3, 19, 3, 4), (3, 22, 3, 5), (3, 25, 3, 6), (3, 28, 3, 7), (4, 9, 4, 1), (4, 15, 4, 0), (5, 7, 5, 0), (6, 11, 6, 0), (7, 11, 7, 0), (7, 15, 7, 1), (7, 18, 7, 2), (7, 21, 7, 3), (8, 9, 8, 0), (9, 9, 9, 2), (9, 15, 9, 3), (9, 18, 9, 0), (9, 22, 9, 1), (10, 9, 10, 0), (10, 13, 10, 1), (10, 16, 10, 2), (11, 10, 11, 0), (11, 19, 11, 1), (11, 26, 11, 2), (11, 33, 11, 3), (11, 37, 11, 4), (11, 40, 11, 5), (11, 48, 11, 6), (11, 57, 11, 7), (11, 64, 11, 8), (11, 71, 11, 9), (11, 78, 11, 10), (11, 85, 11, 11), (11, 89, 11, 12), (11, 93, 11, 13), (12, 9, 12, 2), (12, 13, 12, 8), (12, 17, 12, 9), (12, 20, 12, 10), (12, 23, 12, 11), (12, 26, 12, 12), (12, 29, 12, 13), (12, 32, 12, 14), (12, 35, 12, 15), (12, 38, 12, 16), (12, 41, 12, 21), (12, 44, 12, 23), (12, 47, 12, 24), (12, 50, 12, 27), (12, 53, 12, 28), (12, 56, 12, 29), (12, 59, 12, 30), (12, 62, 12, 32), (12, 65, 12, 33), (12, 68, 12, 34), (12, 71, 12, 35), (12, 74, 12, 40), (12, 77, 12, 41), (12, 80, 12, 44), (12, 83, 12, 46), (12, 86, 12, 47), (12, 89, 12, 50), (12, 93, 12, 51), (12, 96, 12, 52)]
def zi_KT : List (Nat × Nat × Nat) := [(11, 182, 67108864), (11, 424, 1103515245), (12, 413, 1000000), (12, 475, 1103515245), (14, 265, 1431655765), (14, 266, 858993459), (14, 267, 252645135)]
def zi_LT : List (Nat × Nat × Nat) := [(11, 387, 10000), (11, 397, 100), (12, 152, 48), (12, 154, 57), (12, 293, 5), (12, 307, 3), (12, 309, 999), (12, 311, 67108863), (12, 348, 600), (12, 371, 25), (12, 451, 10000), (12, 456, 4), (12, 458, 10), (12, 463, 100), (12, 468, 9), (12, 473, 60), (12, 476, 2)]
def zi_VT : List (Nat × Nat × Nat × Nat) := [(0, 47, 9, 2), (0, 51, 10, 3), (0, 55, 11, 3), (0, 58, 1610, 2), (0, 64, 12, 1), (0, 68, 1611, 1), (1, 31, 19, 2), (1, 40, 203, 2), (1, 44, 205, 3), (2, 23, 201, 3), (2, 29, 203, 2), (2, 33, 404, 2), (2, 36, 18, 1), (4, 40, 804, 2), (4, 50, 805, 0), (4, 54, 808, 1), (4, 58, 809, 0), (4, 62, 811, 3), (4, 69, 810, 3), (5, 17, 1003, 0), (5, 20, 1004, 1), (6, 23, 601, 1), (7, 24, 1605, 1), (7, 34, 1608, 0), (7, 38, 1404, 2), (7, 42, 1609, 0), (7, 55, 1410, 0), (7, 67, 1405, 2), (7, 70, 1610, 2), (7, 73, 1409, 1), (7, 77, 1406, 2), (7, 80, 1606, 0), (7, 83, 1607, 0), (7, 86, 1407, 2), (7, 89, 1408, 2), (7, 92, 1611, 1), (7, 98, 3002, 1), (8, 29, 1606, 0), (8, 33, 1607, 0), (8, 36, 1610, 2), (9, 31, 1, 1), (9, 37, 4, 1), (9, 40, 1802, 3), (9, 44, 201, 3), (9, 50, 15, 2), (9, 54, 204, 1), (9, 64, 602, 1), (9, 68, 1803, 3), (9, 71, 1806, 4), (9, 75, 603, 2), (9, 101, 1402, 2), (9, 106, 17, 2), (9, 117, 1403, 0), (9, 124, 1801, 3), (9, 127, 1805, 3), (9, 133, 1809, 3), (9, 136, 20, 1), (10, 19, 1605, 1), (10, 32, 1610, 2), (10, 36, 1608, 0), (10, 40, 1609, 0), (10, 44, 2004, 0), (10, 47, 2008, 3), (10, 51, 1005, 1), (10, 57, 2003, 3), (10, 61, 1004, 1), (10, 64, 2006, 3), (10, 67, 2007, 3), (10, 73, 2005, 3), (11, 97, 1602, 1), (11, 101, 1601, 0), (11, 105, 1603, 1), (11, 108, 2212, 2), (11, 116, 1401, 1), (11, 122, 1604, 0), (11, 125, 1, 1), (11, 137, 602, 1), (11, 141, 3, 1), (11, 156, 604, 1), (11, 162, 4, 1), (11, 174, 15, 2), (11, 186, 13, 4), (11, 190, 1605, 1), (11, 194, 1608, 0), (11, 198, 2213, 1), (11, 201, 7, 2), (11, 205, 1202, 0), (11, 209, 5, 1), (11, 212, 6, 1), (11, 215, 8, 4), (11, 219, 1609, 0), (11, 222, 1610, 2), (11, 225, 601, 1), (11, 229, 2221, 2), (11, 232, 2220, 1), (11, 235, 2222, 1), (11, 238, 1805, 3), (11, 242, 2234, 0), (11, 245, 2223, 1), (11, 248, 2224, 0), (11, 251, 2227, 1), (11, 257, 1203, 1), (11, 260, 1003, 0), (11, 261, 1004, 1), (11, 264, 1204, 1), (11, 268, 1201, 0), (11, 274, 605, 1), (11, 280, 2225, 0), (11, 283, 1606, 0), (11, 286, 1607, 0), (11, 289, 1611, 1), (11, 292, 201, 3), (11, 296, 204, 1), (11, 299, 206, 1), (11, 302, 1005, 1), (11, 310, 207, 1), (11, 313, 2233, 3), (11, 317, 16, 2), (11, 320, 401, 0), (11, 323, 402, 4), (11, 327, 403, 1), (11, 330, 2235, 1), (11, 336, 18, 1), (11, 339, 2, 1), (11, 342, 1807, 3), (11, 348, 1801, 3), (11, 351, 1802, 3), (11, 354, 17, 2), (11, 357, 2001, 1), (11, 358, 2002, 2), (11, 362, 1808, 1), (11, 365, 1810, 1), (11, 368, 803, 2), (11, 372, 801, 0), (11, 373, 802, 0), (11, 374, 805, 0), (11, 377, 806, 2), (11, 380, 807, 0), (11, 402, 2250, 3), (11, 428, 1001, 0), (11, 429, 1002, 1), (12, 156, 3000, 0), (12, 162, 3001, 1), (12, 166, 2422, 1), (12, 170, 2421, 0), (12, 177, 2425, 3), (12, 181, 2420, 1), (12, 185, 2424, 1), (12, 189, 2419, 1), (12, 192, 2427, 0), (12, 195, 2428, 0), (12, 198, 2429, 0), (12, 201, 2426, 3), (12, 211, 2430, 2), (12, 214, 2431, 0), (12, 220, 2436, 0), (12, 223, 2435, 1), (12, 229, 2423, 1), (12, 232, 2437, 1), (12, 257, 2415, 2), (12, 260, 2441, 2), (12, 268, 2440, 0), (12, 274, 2445, 4), (12, 278, 2444, 3), (12, 282, 2443, 2), (12, 286, 2407, 1), (12, 290, 2408, 1), (12, 295, 2402, 0), (12, 298, 2409, 1), (12, 301, 2416, 1), (12, 304, 2410, 1), (12, 313, 2454, 1), (12, 316, 2446, 3), (12, 322, 2460, 3), (12, 326, 2442, 4), (12, 330, 2453, 0), (12, 333, 2457, 3), (12, 336, 2455, 1), (12, 339, 2458, 2), (12, 342, 2461, 3), (12, 345, 2447, 0), (12, 350, 2462, 2), (12, 362, 2467, 0), (12, 365, 2468, 1), (12, 368, 2470, 2), (12, 373, 2474, 3), (12, 377, 2476, 1), (12, 380, 2477, 2), (12, 383, 2479, 1), (12, 386, 2478, 3), (12, 395, 2411, 1), (12, 398, 2481, 0), (12, 401, 2482, 2), (12, 404, 2484, 3), (12, 420, 2489, 4), (12, 426, 2490, 0), (12, 429, 2492, 0), (12, 435, 2496, 1), (12, 438, 2497, 0), (12, 441, 2500, 2), (12, 444, 2501, 4), (12, 460, 2503, 2), (12, 478, 2513, 0), (15, 335, 3004, 0), (15, 492, 3005, 0), (15, 505, 3000, 0), (15, 633, 3003, 2)]
def zi_IT : List (Nat × Nat × Nat × Nat) := [(0, 11, 1400, 0), (6, 15, 600, 0), (11, 9, 1600, 0), (11, 18, 1000, 0), (11, 25, 0, 0), (11, 32, 600, 0), (11, 45, 200, 1), (11, 54, 1800, 2), (11, 63, 400, 2), (11, 70, 800, 1), (11, 77, 2000, 0), (11, 84, 1200, 0)]
def zi_ST : List (Nat × Nat × Nat × Nat) := [(0, 89, 14, 2), (1, 27, 202, 1), (1, 35, 2800, 1), (2, 42, 2800, 1), (7, 103, 1411, 3), (9, 61, 1804, 3), (9, 112, 2800, 1), (10, 70, 2009, 3), (11, 254, 2226, 1), (11, 305, 2800, 1), (11, 383, 2251, 2), (11, 389, 2252, 2), (11, 393, 2253, 2), (11, 399, 2254, 3), (11, 414, 2255, 3), (11, 421, 2257, 1), (12, 103, 2406, 2), (12, 113, 2403, 3), (12, 123, 2413, 2), (12, 127, 2412, 2), (12, 148, 2405, 1), (12, 244, 2439, 3), (12, 250, 2404, 2), (12, 254, 2414, 2), (12, 263, 2800, 1), (12, 319, 2459, 2), (12, 414, 2488, 2), (12, 417, 2487, 3), (12, 465, 2506, 3), (12, 470, 2507, 3), (15, 495, 3200, 2), (15, 637, 3202, 4), (16, 88, 3201, 1), (16, 95, 3203, 4)]
def zi_OT : List (Nat × Nat) := [(0, 3), (1, 3), (2, 3), (3, 3), (4, 3), (5, 1), (6, 1), (7, 3), (8, 1), (9, 3), (10, 1), (11, 1), (12, 3)]
def zi_T1 : List (Nat × Nat) := [(0, 97), (3, 43), (4, 44), (7, 64), (11, 409), (12, 247), (16, 92)]
def zi_T2 : List (Nat × Nat) := [(0, 92), (7, 58), (8, 20), (9, 88), (10, 76), (12, 139), (16, 38)]
def zi_T3 : List (Nat × Nat) := [(3, 37), (7, 46)]
def zi_NT : List (Nat × Nat × Nat) := [(0, 9, 7), (6, 9, 3), (11, 7, 8), (11, 16, 5), (11, 23, 0), (11, 30, 3), (11, 43, 1), (11, 52, 9), (11, 61, 2), (11, 68, 4), (11, 75, 10), (11, 82, 6)]
def zi_AT : List (Nat × Nat) := [(6, 9), (11, 30)]
def zi_GT : List (Nat × Nat) := [(15, 38)]
end
section
/-! ===== printed: the links are among the tables' words ===== -/
theorem zi_w1 {j : Nat} {w : Cond} (h : tables_1_1[j]? = some w) : w ∈ lw_tbl := List.mem_append_right _ (show w ∈ tables_1 from List.mem_append_left _ (List.mem_of_getElem? h))
theorem zi_t1 {j : Nat} {w : Cond} (h : tables_1_1[j]? = some w) (g : goodWord w = true) : w ∈ zi_tb := List.mem_filter.mpr ⟨zi_w1 h, g⟩
theorem zi_n1 {j : Nat} {w : Cond} (h : tables_1_1[j]? = some w) (g : zi_isN w = true) : w ∈ zi_nw := List.mem_filter.mpr ⟨zi_w1 h, g⟩
theorem zi_w2 {j : Nat} {w : Cond} (h : tables_1_2[j]? = some w) : w ∈ lw_tbl := List.mem_append_right _ (show w ∈ tables_1 from List.mem_append_right _ (List.mem_append_left _ (List.mem_of_getElem? h)))
theorem zi_t2 {j : Nat} {w : Cond} (h : tables_1_2[j]? = some w) (g : goodWord w = true) : w ∈ zi_tb := List.mem_filter.mpr ⟨zi_w2 h, g⟩
theorem zi_n2 {j : Nat} {w : Cond} (h : tables_1_2[j]? = some w) (g : zi_isN w = true) : w ∈ zi_nw := List.mem_filter.mpr ⟨zi_w2 h, g⟩
theorem zi_w3 {j : Nat} {w : Cond} (h : tables_1_3[j]? = some w) : w ∈ lw_tbl := List.mem_append_right _ (show w ∈ tables_1 from List.mem_append_right _ (List.mem_append_right _ (List.mem_append_left _ (List.mem_of_getElem? h))))
theorem zi_t3 {j : Nat} {w : Cond} (h : tables_1_3[j]? = some w) (g : goodWord w = true) : w ∈ zi_tb := List.mem_filter.mpr ⟨zi_w3 h, g⟩
theorem zi_n3 {j : Nat} {w : Cond} (h : tables_1_3[j]? = some w) (g : zi_isN w = true) : w ∈ zi_nw := List.mem_filter.mpr ⟨zi_w3 h, g⟩
theorem zi_w4 {j : Nat} {w : Cond} (h : tables_1_4[j]? = some w) : w ∈ lw_tbl := List.mem_append_right _ (show w ∈ tables_1 from List.mem_append_right _ (List.mem_append_right _ (List.mem_append_right _ (List.mem_append_left _ (List.mem_of_getElem? h)))))
theorem zi_t4 {j : Nat} {w : Cond} (h : tables_1_4[j]? = some w) (g : goodWord w = true) : w ∈ zi_tb := List.mem_filter.mpr ⟨zi_w4 h, g⟩
theorem zi_n4 {j : Nat} {w : Cond} (h : tables_1_4[j]? = some w) (g : zi_isN w = true) : w ∈ zi_nw := List.mem_filter.mpr ⟨zi_w4 h, g⟩
theorem zi_w5 {j : Nat} {w : Cond} (h : tables_1_5[j]? = some w) : w ∈ lw_tbl := List.mem_append_right _ (show w ∈ tables_1 from List.mem_append_right _ (List.mem_append_right _ (List.mem_append_right _ (List.mem_append_right _ (List.mem_append_left _ (List.mem_of_getElem? h))))))
theorem zi_t5 {j : Nat} {w : Cond} (h : tables_1_5[j]? = some w) (g : goodWord w = true) : w ∈ zi_tb := List.mem_filter.mpr ⟨zi_w5 h, g⟩
theorem zi_n5 {j : Nat} {w : Cond} (h : tables_1_5[j]? = some w) (g : zi_isN w = true) : w ∈ zi_nw := List.mem_filter.mpr ⟨zi_w5 h, g⟩
theorem zi_w6 {j : Nat} {w : Cond} (h : tables_1_6[j]? = some w) : w ∈ lw_tbl := List.mem_append_right _ (show w ∈ tables_1 from List.mem_append_right _ (List.mem_append_right _ (List.mem_append_right _ (List.mem_append_right _ (List.mem_append_right _ (List.mem_append_left _ (List.mem_of_getElem? h)))))))
theorem zi_t6 {j : Nat} {w : Cond} (h : tables_1_6[j]? = some w) (g : goodWord w = true) : w ∈ zi_tb := List.mem_filter.mpr ⟨zi_w6 h, g⟩
theorem zi_n6 {j : Nat} {w : Cond} (h : tables_1_6[j]? = some w) (g : zi_isN w = true) : w ∈ zi_nw := List.mem_filter.mpr ⟨zi_w6 h, g⟩
theorem zi_w7 {j : Nat} {w : Cond} (h : tables_1_7[j]? = some w) : w ∈ lw_tbl := List.mem_append_right _ (show w ∈ tables_1 from List.mem_append_right _ (List.mem_append_right _ (List.mem_append_right _ (List.mem_append_right _ (List.mem_append_right _ (List.mem_append_right _ (List.mem_append_left _ (List.mem_of_getElem? h))))))))
theorem zi_t7 {j : Nat} {w : Cond} (h : tables_1_7[j]? = some w) (g : goodWord w = true) : w ∈ zi_tb := List.mem_filter.mpr ⟨zi_w7 h, g⟩
theorem zi_n7 {j : Nat} {w : Cond} (h : tables_1_7[j]? = some w) (g : zi_isN w = true) : w ∈ zi_nw := List.mem_filter.mpr ⟨zi_w7 h, g⟩
theorem zi_w8 {j : Nat} {w : Cond} (h : tables_1_8[j]? = some w) : w ∈ lw_tbl := List.mem_append_right _ (show w ∈ tables_1 from List.mem_append_right _ (List.mem_append_right _ (List.mem_append_right _ (List.mem_append_right _ (List.mem_append_right _ (List.mem_append_right _ (List.mem_append_right _ (List.mem_of_getElem? h))))))))
theorem zi_t8 {j : Nat} {w : Cond} (h : tables_1_8[j]? = some w) (g : goodWord w = true) : w ∈ zi_tb := List.mem_filter.mpr ⟨zi_w8 h, g⟩
theorem zi_n8 {j : Nat} {w : Cond} (h : tables_1_8[j]? = some w) (g : zi_isN w = true) : w ∈ zi_nw := List.mem_filter.mpr ⟨zi_w8 h, g⟩
theorem zi_s1 {j n : Nat} {y : MethodName} (h : lw_privs_1[j]? = some (y, n)) : Cond.selects y.cls y y ∈ zi_tb := List.mem_filter.mpr ⟨List.mem_append_left _ (List.mem_map.mpr ⟨(y, n), show (y, n) ∈ lw_privs from List.mem_append_left _ (List.mem_of_getElem? h), rfl⟩), rfl⟩
theorem zi_s2 {j n : Nat} {y : MethodName} (h : lw_privs_2[j]? = some (y, n)) : Cond.selects y.cls y y ∈ zi_tb := List.mem_filter.mpr ⟨List.mem_append_left _ (List.mem_map.mpr ⟨(y, n), show (y, n) ∈ lw_privs from List.mem_append_right _ (List.mem_append_left _ (List.mem_of_getElem? h)), rfl⟩), rfl⟩
theorem zi_s3 {j n : Nat} {y : MethodName} (h : lw_privs_3[j]? = some (y, n)) : Cond.selects y.cls y y ∈ zi_tb := List.mem_filter.mpr ⟨List.mem_append_left _ (List.mem_map.mpr ⟨(y, n), show (y, n) ∈ lw_privs from List.mem_append_right _ (List.mem_append_right _ (List.mem_append_left _ (List.mem_of_getElem? h))), rfl⟩), rfl⟩
theorem zi_s4 {j n : Nat} {y : MethodName} (h : lw_privs_4[j]? = some (y, n)) : Cond.selects y.cls y y ∈ zi_tb := List.mem_filter.mpr ⟨List.mem_append_left _ (List.mem_map.mpr ⟨(y, n), show (y, n) ∈ lw_privs from List.mem_append_right _ (List.mem_append_right _ (List.mem_append_right _ (List.mem_append_left _ (List.mem_of_getElem? h)))), rfl⟩), rfl⟩
theorem zi_s5 {j n : Nat} {y : MethodName} (h : lw_privs_5[j]? = some (y, n)) : Cond.selects y.cls y y ∈ zi_tb := List.mem_filter.mpr ⟨List.mem_append_left _ (List.mem_map.mpr ⟨(y, n), show (y, n) ∈ lw_privs from List.mem_append_right _ (List.mem_append_right _ (List.mem_append_right _ (List.mem_append_right _ (List.mem_append_left _ (List.mem_of_getElem? h))))), rfl⟩), rfl⟩
theorem zi_s6 {j n : Nat} {y : MethodName} (h : lw_privs_6[j]? = some (y, n)) : Cond.selects y.cls y y ∈ zi_tb := List.mem_filter.mpr ⟨List.mem_append_left _ (List.mem_map.mpr ⟨(y, n), show (y, n) ∈ lw_privs from List.mem_append_right _ (List.mem_append_right _ (List.mem_append_right _ (List.mem_append_right _ (List.mem_append_right _ (List.mem_append_left _ (List.mem_of_getElem? h)))))), rfl⟩), rfl⟩
theorem zi_s7 {j n : Nat} {y : MethodName} (h : lw_privs_7[j]? = some (y, n)) : Cond.selects y.cls y y ∈ zi_tb := List.mem_filter.mpr ⟨List.mem_append_left _ (List.mem_map.mpr ⟨(y, n), show (y, n) ∈ lw_privs from List.mem_append_right _ (List.mem_append_right _ (List.mem_append_right _ (List.mem_append_right _ (List.mem_append_right _ (List.mem_append_right _ (List.mem_of_getElem? h)))))), rfl⟩), rfl⟩
theorem zi_M_mem {x : Nat} {d : zi_MI} (h : zi_M x = some d) : (x, d) ∈ zi_ml := by
  unfold zi_M at h
  obtain ⟨q, hq, rfl⟩ := Option.map_eq_some_iff.mp h
  have h1 := List.find?_some hq
  have h2 := List.mem_of_find?_eq_some hq
  have h3 : q.1 = x := zi_beq h1
  subst h3
  exact h2
/-- what is known of a method -/
def zi_mf (x : Nat) (d : zi_MI) : Prop := zi_M x = some d ∧ d.1.cls = zi_cn (x / 200) ∧ Cond.initialized d.1.cls ∈ zi_tb ∧ (d.1.cls ≠ "java/lang/invoke/MethodHandle" ∧ d.1.cls ≠ "java/lang/invoke/VarHandle" ∧ (parseMethodDescriptor d.1.desc).map (fun q => q.parameters.length) = some d.2.2.2.2) ∧ Cond.code d.1 d.2.1 d.2.2.1 (zi_rt d.2.2.2.1) ∈ zi_tb ∧ d.2.2.1 ≤ 40 ∧ plainName d.1.cls = true
theorem zi_mkM {o ix x : Nat} {d : zi_MI} (h : zi_mf x d) (hl : Cond.methodLink (zi_cn o) ix d.1 ∈ zi_tb ∨ ∃ host, Cond.methodLinkNest (zi_cn o) ix d.1 host ∈ zi_nw) : zi_gM zi_M o ix x d.2.2.2.2 := ⟨d, h.1, rfl, h.2.1, h.2.2.1, h.2.2.2.1, h.2.2.2.2.1, h.2.2.2.2.2.1, hl⟩
theorem zi_mkV {o ix x : Nat} {d : zi_MI} (h : zi_mf x d) (hl : Cond.methodLink (zi_cn o) ix d.1 ∈ zi_tb ∨ ∃ host, Cond.methodLinkNest (zi_cn o) ix d.1 host ∈ zi_nw) (h1 : Cond.instanceMethod d.1 ∈ zi_tb) (h2 : Cond.selects (zi_cn (x / 200)) d.1 d.1 ∈ zi_tb) (hr : (∃ r : vw_C, vwCl[x / 200]? = some r ∧ r.1 = zi_cn (x / 200)) ∨ x / 200 = 15) : zi_gV zi_M o ix x d.2.2.2.2 := ⟨zi_mkM h hl, fun d' h' => by
  rw [h.1] at h'
  cases h'
  exact ⟨h1, h2, hr⟩⟩
theorem zi_mkI {o ix x : Nat} {d : zi_MI} (h : zi_mf x d) (hl : Cond.methodLink (zi_cn o) ix d.1 ∈ zi_tb ∨ ∃ host, Cond.methodLinkNest (zi_cn o) ix d.1 host ∈ zi_nw) (h1 : Cond.instanceMethod d.1 ∈ zi_tb) (h2 : d.1.name = "<init>" ∧ d.2.2.2.1 = 0) : zi_gI zi_M o ix x d.2.2.2.2 := ⟨zi_mkM h hl, fun d' h' => by
  rw [h.1] at h'
  cases h'
  exact ⟨h1, h2⟩⟩
theorem zi_mkS {o ix x : Nat} {d : zi_MI} (h : zi_mf x d) (hl : Cond.methodLink (zi_cn o) ix d.1 ∈ zi_tb ∨ ∃ host, Cond.methodLinkNest (zi_cn o) ix d.1 host ∈ zi_nw) (h1 : Cond.static d.1 ∈ zi_tb) : zi_gS zi_M o ix x d.2.2.2.2 := ⟨zi_mkM h hl, fun d' h' => by
  rw [h.1] at h'
  cases h'
  exact h1⟩
theorem zi_ini_0 : Cond.initialized (zi_cn 0) ∈ zi_tb := (zi_t1 (j := 4) rfl rfl)
theorem zi_ini_1 : Cond.initialized (zi_cn 1) ∈ zi_tb := (zi_t1 (j := 7) rfl rfl)
theorem zi_ini_2 : Cond.initialized (zi_cn 2) ∈ zi_tb := (zi_t1 (j := 9) rfl rfl)
theorem zi_ini_3 : Cond.initialized (zi_cn 3) ∈ zi_tb := (zi_t1 (j := 6) rfl rfl)
theorem zi_ini_4 : Cond.initialized (zi_cn 4) ∈ zi_tb := (zi_t1 (j := 10) rfl rfl)
theorem zi_ini_5 : Cond.initialized (zi_cn 5) ∈ zi_tb := (zi_t1 (j := 3) rfl rfl)
theorem zi_ini_6 : Cond.initialized (zi_cn 6) ∈ zi_tb := (zi_t1 (j := 12) rfl rfl)
theorem zi_ini_7 : Cond.initialized (zi_cn 7) ∈ zi_tb := (zi_t1 (j := 5) rfl rfl)
theorem zi_ini_8 : Cond.initialized (zi_cn 8) ∈ zi_tb := (zi_t1 (j := 2) rfl rfl)
theorem zi_ini_9 : Cond.initialized (zi_cn 9) ∈ zi_tb := (zi_t1 (j := 8) rfl rfl)
theorem zi_ini_10 : Cond.initialized (zi_cn 10) ∈ zi_tb := (zi_t1 (j := 11) rfl rfl)
theorem zi_ini_11 : Cond.initialized (zi_cn 11) ∈ zi_tb := (zi_t1 (j := 1) rfl rfl)
theorem zi_ini_12 : Cond.initialized (zi_cn 12) ∈ zi_tb := (zi_t1 (j := 13) rfl rfl)
theorem zi_ini_14 : Cond.initialized (zi_cn 14) ∈ zi_tb := (zi_t1 (j := 25) rfl rfl)
theorem zi_ini_15 : Cond.initialized (zi_cn 15) ∈ zi_tb := (zi_t1 (j := 15) rfl rfl)
theorem zi_ini_16 : Cond.initialized (zi_cn 16) ∈ zi_tb := (zi_t1 (j := 16) rfl rfl)
theorem zm_0 : zi_mf 0 (yX0_init, cX0_init, 1, 0, 0) := ⟨rfl, rfl, zi_ini_0, by decide +kernel, (zi_t1 (j := 72) rfl rfl), by decide, by decide +kernel⟩
theorem zm_1 : zi_mf 1 (yX0_hasLock, cX0_hasLock, 2, 2, 1) := ⟨rfl, rfl, zi_ini_0, by decide +kernel, (zi_t3 (j := 210) rfl rfl), by decide, by decide +kernel⟩
theorem zm_2 : zi_mf 2 (yX0_hasPlace, cX0_hasPlace, 2, 2, 1) := ⟨rfl, rfl, zi_ini_0, by decide +kernel, (zi_t4 (j := 183) rfl rfl), by decide, by decide +kernel⟩
theorem zm_3 : zi_mf 3 (yX0_hasSinger, cX0_hasSinger, 2, 2, 1) := ⟨rfl, rfl, zi_ini_0, by decide +kernel, (zi_t3 (j := 168) rfl rfl), by decide, by decide +kernel⟩
theorem zm_4 : zi_mf 4 (yX0_hasBarge, cX0_hasBarge, 2, 2, 1) := ⟨rfl, rfl, zi_ini_0, by decide +kernel, (zi_t3 (j := 164) rfl rfl), by decide, by decide +kernel⟩
theorem zm_5 : zi_mf 5 (yX0_many, cX0_many, 2, 1, 1) := ⟨rfl, rfl, zi_ini_0, by decide +kernel, (zi_t2 (j := 175) rfl rfl), by decide, by decide +kernel⟩
theorem zm_6 : zi_mf 6 (yX0_room, cX0_room, 2, 1, 1) := ⟨rfl, rfl, zi_ini_0, by decide +kernel, (zi_t2 (j := 179) rfl rfl), by decide, by decide +kernel⟩
theorem zm_7 : zi_mf 7 (yX0_grow, cX0_grow, 3, 0, 2) := ⟨rfl, rfl, zi_ini_0, by decide +kernel, (zi_t2 (j := 229) rfl rfl), by decide, by decide +kernel⟩
theorem zm_8 : zi_mf 8 (yX0_readLine, cX0_readLine, 5, 2, 4) := ⟨rfl, rfl, zi_ini_0, by decide +kernel, (zi_t2 (j := 183) rfl rfl), by decide, by decide +kernel⟩
theorem zm_9 : zi_mf 9 (yX0_readLock, cX0_readLock, 5, 2, 2) := ⟨rfl, rfl, zi_ini_0, by decide +kernel, (zi_t2 (j := 187) rfl rfl), by decide, by decide +kernel⟩
theorem zm_10 : zi_mf 10 (yX0_readSinger, cX0_readSinger, 7, 2, 3) := ⟨rfl, rfl, zi_ini_0, by decide +kernel, (zi_t2 (j := 203) rfl rfl), by decide, by decide +kernel⟩
theorem zm_11 : zi_mf 11 (yX0_readBarge, cX0_readBarge, 5, 2, 3) := ⟨rfl, rfl, zi_ini_0, by decide +kernel, (zi_t2 (j := 216) rfl rfl), by decide, by decide +kernel⟩
theorem zm_12 : zi_mf 12 (yX0_readPlace, cX0_readPlace, 3, 1, 1) := ⟨rfl, rfl, zi_ini_0, by decide +kernel, (zi_t2 (j := 207) rfl rfl), by decide, by decide +kernel⟩
theorem zm_13 : zi_mf 13 (yX0_takeFees, cX0_takeFees, 8, 1, 4) := ⟨rfl, rfl, zi_ini_0, by decide +kernel, (zi_t3 (j := 142) rfl rfl), by decide, by decide +kernel⟩
theorem zm_14 : zi_mf 14 (yX0_narrowed, cX0_narrowed, 2, 1, 2) := ⟨rfl, rfl, zi_ini_0, by decide +kernel, (zi_t3 (j := 145) rfl rfl), by decide, by decide +kernel⟩
theorem zm_15 : zi_mf 15 (yX0_crewOf, cX0_crewOf, 5, 1, 2) := ⟨rfl, rfl, zi_ini_0, by decide +kernel, (zi_t3 (j := 231) rfl rfl), by decide, by decide +kernel⟩
theorem zm_16 : zi_mf 16 (yX0_freeAt, cX0_freeAt, 5, 1, 2) := ⟨rfl, rfl, zi_ini_0, by decide +kernel, (zi_t4 (j := 147) rfl rfl), by decide, by decide +kernel⟩
theorem zm_17 : zi_mf 17 (yX0_tiredOf, cX0_tiredOf, 5, 1, 2) := ⟨rfl, rfl, zi_ini_0, by decide +kernel, (zi_t4 (j := 22) rfl rfl), by decide, by decide +kernel⟩
theorem zm_18 : zi_mf 18 (yX0_feesOf, cX0_feesOf, 4, 1, 1) := ⟨rfl, rfl, zi_ini_0, by decide +kernel, (zi_t4 (j := 169) rfl rfl), by decide, by decide +kernel⟩
theorem zm_19 : zi_mf 19 (yX0_ableToSing, cX0_ableToSing, 5, 1, 2) := ⟨rfl, rfl, zi_ini_0, by decide +kernel, (zi_t3 (j := 227) rfl rfl), by decide, by decide +kernel⟩
theorem zm_20 : zi_mf 20 (yX0_chordBits, cX0_chordBits, 4, 1, 1) := ⟨rfl, rfl, zi_ini_0, by decide +kernel, (zi_t5 (j := 26) rfl rfl), by decide, by decide +kernel⟩
theorem zm_200 : zi_mf 200 (yX1_init, cX1_init, 2, 0, 1) := ⟨rfl, rfl, zi_ini_1, by decide +kernel, (zi_t1 (j := 203) rfl rfl), by decide, by decide +kernel⟩
theorem zm_201 : zi_mf 201 (yX1_gather, cX1_gather, 6, 0, 3) := ⟨rfl, rfl, zi_ini_1, by decide +kernel, (zi_t3 (j := 214) rfl rfl), by decide, by decide +kernel⟩
theorem zm_202 : zi_mf 202 (yX1_placeOf, cX1_placeOf, 1, 1, 1) := ⟨rfl, rfl, zi_ini_1, by decide +kernel, (zi_t3 (j := 217) rfl rfl), by decide, by decide +kernel⟩
theorem zm_203 : zi_mf 203 (yX1_canSing, cX1_canSing, 5, 2, 2) := ⟨rfl, rfl, zi_ini_1, by decide +kernel, (zi_t3 (j := 239) rfl rfl), by decide, by decide +kernel⟩
theorem zm_204 : zi_mf 204 (yX1_settle, cX1_settle, 5, 2, 1) := ⟨rfl, rfl, zi_ini_1, by decide +kernel, (zi_t3 (j := 235) rfl rfl), by decide, by decide +kernel⟩
theorem zm_205 : zi_mf 205 (yX1_firstFor, cX1_firstFor, 6, 1, 3) := ⟨rfl, rfl, zi_ini_1, by decide +kernel, (zi_t4 (j := 3) rfl rfl), by decide, by decide +kernel⟩
theorem zm_206 : zi_mf 206 (yX1_mostNotes, cX1_mostNotes, 4, 1, 1) := ⟨rfl, rfl, zi_ini_1, by decide +kernel, (zi_t4 (j := 116) rfl rfl), by decide, by decide +kernel⟩
theorem zm_207 : zi_mf 207 (yX1_fewestMissed, cX1_fewestMissed, 5, 1, 1) := ⟨rfl, rfl, zi_ini_1, by decide +kernel, (zi_t4 (j := 131) rfl rfl), by decide, by decide +kernel⟩
theorem zm_400 : zi_mf 400 (yX2_init, cX2_init, 3, 0, 2) := ⟨rfl, rfl, zi_ini_2, by decide +kernel, (zi_t2 (j := 4) rfl rfl), by decide, by decide +kernel⟩
theorem zm_401 : zi_mf 401 (yX2_begin, cX2_begin, 2, 0, 0) := ⟨rfl, rfl, zi_ini_2, by decide +kernel, (zi_t4 (j := 151) rfl rfl), by decide, by decide +kernel⟩
theorem zm_402 : zi_mf 402 (yX2_mustSing, cX2_mustSing, 6, 0, 4) := ⟨rfl, rfl, zi_ini_2, by decide +kernel, (zi_t4 (j := 155) rfl rfl), by decide, by decide +kernel⟩
theorem zm_403 : zi_mf 403 (yX2_cheapest, cX2_cheapest, 4, 1, 1) := ⟨rfl, rfl, zi_ini_2, by decide +kernel, (zi_t4 (j := 161) rfl rfl), by decide, by decide +kernel⟩
theorem zm_404 : zi_mf 404 (yX2_isBetter, cX2_isBetter, 5, 2, 2) := ⟨rfl, rfl, zi_ini_2, by decide +kernel, (zi_t4 (j := 165) rfl rfl), by decide, by decide +kernel⟩
theorem zm_600 : zi_mf 600 (yX3_init, cX3_init, 1, 0, 0) := ⟨rfl, rfl, zi_ini_3, by decide +kernel, (zi_t1 (j := 155) rfl rfl), by decide, by decide +kernel⟩
theorem zm_601 : zi_mf 601 (yX3_copy, cX3_copy, 2, 0, 1) := ⟨rfl, rfl, zi_ini_3, by decide +kernel, (zi_t3 (j := 155) rfl rfl), by decide, by decide +kernel⟩
theorem zm_602 : zi_mf 602 (yX3_levelOf, cX3_levelOf, 2, 1, 1) := ⟨rfl, rfl, zi_ini_3, by decide +kernel, (zi_t4 (j := 10) rfl rfl), by decide, by decide +kernel⟩
theorem zm_603 : zi_mf 603 (yX3_setLevel, cX3_setLevel, 3, 0, 2) := ⟨rfl, rfl, zi_ini_3, by decide +kernel, (zi_t4 (j := 40) rfl rfl), by decide, by decide +kernel⟩
theorem zm_604 : zi_mf 604 (yX3_whereIs, cX3_whereIs, 3, 1, 1) := ⟨rfl, rfl, zi_ini_3, by decide +kernel, (zi_t3 (j := 189) rfl rfl), by decide, by decide +kernel⟩
theorem zm_605 : zi_mf 605 (yX3_letGoBy, cX3_letGoBy, 4, 0, 1) := ⟨rfl, rfl, zi_ini_3, by decide +kernel, (zi_t4 (j := 65) rfl rfl), by decide, by decide +kernel⟩
theorem zm_800 : zi_mf 800 (yX4_init, cX4_init, 2, 0, 1) := ⟨rfl, rfl, zi_ini_4, by decide +kernel, (zi_t2 (j := 21) rfl rfl), by decide, by decide +kernel⟩
theorem zm_801 : zi_mf 801 (yX4_size, cX4_size, 1, 1, 0) := ⟨rfl, rfl, zi_ini_4, by decide +kernel, (zi_t5 (j := 42) rfl rfl), by decide, by decide +kernel⟩
theorem zm_802 : zi_mf 802 (yX4_clear, cX4_clear, 1, 0, 0) := ⟨rfl, rfl, zi_ini_4, by decide +kernel, (zi_t5 (j := 50) rfl rfl), by decide, by decide +kernel⟩
theorem zm_803 : zi_mf 803 (yX4_note, cX4_note, 3, 2, 2) := ⟨rfl, rfl, zi_ini_4, by decide +kernel, (zi_t5 (j := 38) rfl rfl), by decide, by decide +kernel⟩
theorem zm_804 : zi_mf 804 (yX4_hasInRange, cX4_hasInRange, 3, 2, 2) := ⟨rfl, rfl, zi_ini_4, by decide +kernel, (zi_t5 (j := 70) rfl rfl), by decide, by decide +kernel⟩
theorem zm_805 : zi_mf 805 (yX4_fitting, cX4_fitting, 5, 1, 0) := ⟨rfl, rfl, zi_ini_4, by decide +kernel, (zi_t5 (j := 58) rfl rfl), by decide, by decide +kernel⟩
theorem zm_806 : zi_mf 806 (yX4_leftAtMost, cX4_leftAtMost, 7, 1, 2) := ⟨rfl, rfl, zi_ini_4, by decide +kernel, (zi_t5 (j := 66) rfl rfl), by decide, by decide +kernel⟩
theorem zm_807 : zi_mf 807 (yX4_parting, cX4_parting, 3, 1, 0) := ⟨rfl, rfl, zi_ini_4, by decide +kernel, (zi_t5 (j := 79) rfl rfl), by decide, by decide +kernel⟩
theorem zm_808 : zi_mf 808 (yX4_findPairs, cX4_findPairs, 5, 0, 1) := ⟨rfl, rfl, zi_ini_4, by decide +kernel, (zi_t5 (j := 84) rfl rfl), by decide, by decide +kernel⟩
theorem zm_809 : zi_mf 809 (yX4_allApart, cX4_allApart, 3, 2, 0) := ⟨rfl, rfl, zi_ini_4, by decide +kernel, (zi_t5 (j := 92) rfl rfl), by decide, by decide +kernel⟩
theorem zm_810 : zi_mf 810 (yX4_markPair, cX4_markPair, 5, 0, 3) := ⟨rfl, rfl, zi_ini_4, by decide +kernel, (zi_t5 (j := 88) rfl rfl), by decide, by decide +kernel⟩
theorem zm_811 : zi_mf 811 (yX4_partingBy, cX4_partingBy, 6, 1, 3) := ⟨rfl, rfl, zi_ini_4, by decide +kernel, (zi_t5 (j := 96) rfl rfl), by decide, by decide +kernel⟩
theorem zm_1000 : zi_mf 1000 (yX5_init, cX5_init, 1, 0, 0) := ⟨rfl, rfl, zi_ini_5, by decide +kernel, (zi_t1 (j := 58) rfl rfl), by decide, by decide +kernel⟩
theorem zm_1001 : zi_mf 1001 (yX5_size, cX5_size, 1, 1, 0) := ⟨rfl, rfl, zi_ini_5, by decide +kernel, (zi_t5 (j := 158) rfl rfl), by decide, by decide +kernel⟩
theorem zm_1002 : zi_mf 1002 (yX5_at, cX5_at, 2, 3, 1) := ⟨rfl, rfl, zi_ini_5, by decide +kernel, (zi_t6 (j := 12) rfl rfl), by decide, by decide +kernel⟩
theorem zm_1003 : zi_mf 1003 (yX5_clear, cX5_clear, 1, 0, 0) := ⟨rfl, rfl, zi_ini_5, by decide +kernel, (zi_t4 (j := 49) rfl rfl), by decide, by decide +kernel⟩
theorem zm_1004 : zi_mf 1004 (yX5_add, cX5_add, 3, 0, 1) := ⟨rfl, rfl, zi_ini_5, by decide +kernel, (zi_t4 (j := 53) rfl rfl), by decide, by decide +kernel⟩
theorem zm_1005 : zi_mf 1005 (yX5_tell, cX5_tell, 3, 0, 1) := ⟨rfl, rfl, zi_ini_5, by decide +kernel, (zi_t4 (j := 120) rfl rfl), by decide, by decide +kernel⟩
theorem zm_1200 : zi_mf 1200 (yX6_init, cX6_init, 2, 0, 0) := ⟨rfl, rfl, zi_ini_6, by decide +kernel, (zi_t2 (j := 68) rfl rfl), by decide, by decide +kernel⟩
theorem zm_1201 : zi_mf 1201 (yX6_size, cX6_size, 1, 1, 0) := ⟨rfl, rfl, zi_ini_6, by decide +kernel, (zi_t4 (j := 100) rfl rfl), by decide, by decide +kernel⟩
theorem zm_1202 : zi_mf 1202 (yX6_clear, cX6_clear, 1, 0, 0) := ⟨rfl, rfl, zi_ini_6, by decide +kernel, (zi_t2 (j := 233) rfl rfl), by decide, by decide +kernel⟩
theorem zm_1203 : zi_mf 1203 (yX6_add, cX6_add, 2, 0, 1) := ⟨rfl, rfl, zi_ini_6, by decide +kernel, (zi_t3 (j := 176) rfl rfl), by decide, by decide +kernel⟩
theorem zm_1204 : zi_mf 1204 (yX6_takeBack, cX6_takeBack, 2, 2, 1) := ⟨rfl, rfl, zi_ini_6, by decide +kernel, (zi_t4 (j := 96) rfl rfl), by decide, by decide +kernel⟩
theorem zm_1400 : zi_mf 1400 (yX7_init, cX7_init, 1, 0, 0) := ⟨rfl, rfl, zi_ini_7, by decide +kernel, (zi_t1 (j := 78) rfl rfl), by decide, by decide +kernel⟩
theorem zm_1401 : zi_mf 1401 (yX7_read, cX7_read, 2, 1, 1) := ⟨rfl, rfl, zi_ini_7, by decide +kernel, (zi_t3 (j := 9) rfl rfl), by decide, by decide +kernel⟩
theorem zm_1402 : zi_mf 1402 (yX7_put, cX7_put, 3, 0, 2) := ⟨rfl, rfl, zi_ini_7, by decide +kernel, (zi_t4 (j := 18) rfl rfl), by decide, by decide +kernel⟩
theorem zm_1403 : zi_mf 1403 (yX7_minutes, cX7_minutes, 2, 1, 0) := ⟨rfl, rfl, zi_ini_7, by decide +kernel, (zi_t4 (j := 27) rfl rfl), by decide, by decide +kernel⟩
theorem zm_1404 : zi_mf 1404 (yX7_comparison, cX7_comparison, 4, 2, 2) := ⟨rfl, rfl, zi_ini_7, by decide +kernel, (zi_t3 (j := 15) rfl rfl), by decide, by decide +kernel⟩
theorem zm_1405 : zi_mf 1405 (yX7_sum, cX7_sum, 6, 2, 2) := ⟨rfl, rfl, zi_ini_7, by decide +kernel, (zi_t3 (j := 19) rfl rfl), by decide, by decide +kernel⟩
theorem zm_1406 : zi_mf 1406 (yX7_product, cX7_product, 6, 2, 2) := ⟨rfl, rfl, zi_ini_7, by decide +kernel, (zi_t3 (j := 23) rfl rfl), by decide, by decide +kernel⟩
theorem zm_1407 : zi_mf 1407 (yX7_negated, cX7_negated, 5, 2, 2) := ⟨rfl, rfl, zi_ini_7, by decide +kernel, (zi_t3 (j := 27) rfl rfl), by decide, by decide +kernel⟩
theorem zm_1408 : zi_mf 1408 (yX7_thing, cX7_thing, 5, 2, 2) := ⟨rfl, rfl, zi_ini_7, by decide +kernel, (zi_t3 (j := 32) rfl rfl), by decide, by decide +kernel⟩
theorem zm_1409 : zi_mf 1409 (yX7_emit, cX7_emit, 2, 2, 1) := ⟨rfl, rfl, zi_ini_7, by decide +kernel, (zi_t3 (j := 37) rfl rfl), by decide, by decide +kernel⟩
theorem zm_1410 : zi_mf 1410 (yX7_worth, cX7_worth, 5, 1, 0) := ⟨rfl, rfl, zi_ini_7, by decide +kernel, (zi_t4 (j := 31) rfl rfl), by decide, by decide +kernel⟩
theorem zm_1411 : zi_mf 1411 (yX7_joined, cX7_joined, 3, 1, 3) := ⟨rfl, rfl, zi_ini_7, by decide +kernel, (zi_t4 (j := 34) rfl rfl), by decide, by decide +kernel⟩
theorem zm_1600 : zi_mf 1600 (yX8_init, cX8_init, 1, 0, 0) := ⟨rfl, rfl, zi_ini_8, by decide +kernel, (zi_t1 (j := 38) rfl rfl), by decide, by decide +kernel⟩
theorem zm_1601 : zi_mf 1601 (yX8_length, cX8_length, 1, 1, 0) := ⟨rfl, rfl, zi_ini_8, by decide +kernel, (zi_t2 (j := 140) rfl rfl), by decide, by decide +kernel⟩
theorem zm_1602 : zi_mf 1602 (yX8_addFour, cX8_addFour, 3, 2, 1) := ⟨rfl, rfl, zi_ini_8, by decide +kernel, (zi_t2 (j := 136) rfl rfl), by decide, by decide +kernel⟩
theorem zm_1603 : zi_mf 1603 (yX8_cutTo, cX8_cutTo, 2, 2, 1) := ⟨rfl, rfl, zi_ini_8, by decide +kernel, (zi_t2 (j := 148) rfl rfl), by decide, by decide +kernel⟩
theorem zm_1604 : zi_mf 1604 (yX8_clear, cX8_clear, 1, 0, 0) := ⟨rfl, rfl, zi_ini_8, by decide +kernel, (zi_t2 (j := 225) rfl rfl), by decide, by decide +kernel⟩
theorem zm_1605 : zi_mf 1605 (yX8_open, cX8_open, 2, 0, 1) := ⟨rfl, rfl, zi_ini_8, by decide +kernel, (zi_t2 (j := 160) rfl rfl), by decide, by decide +kernel⟩
theorem zm_1606 : zi_mf 1606 (yX8_look, cX8_look, 1, 1, 0) := ⟨rfl, rfl, zi_ini_8, by decide +kernel, (zi_t2 (j := 195) rfl rfl), by decide, by decide +kernel⟩
theorem zm_1607 : zi_mf 1607 (yX8_step, cX8_step, 1, 0, 0) := ⟨rfl, rfl, zi_ini_8, by decide +kernel, (zi_t2 (j := 199) rfl rfl), by decide, by decide +kernel⟩
theorem zm_1608 : zi_mf 1608 (yX8_over, cX8_over, 1, 2, 0) := ⟨rfl, rfl, zi_ini_8, by decide +kernel, (zi_t2 (j := 167) rfl rfl), by decide, by decide +kernel⟩
theorem zm_1609 : zi_mf 1609 (yX8_fault, cX8_fault, 1, 1, 0) := ⟨rfl, rfl, zi_ini_8, by decide +kernel, (zi_t2 (j := 220) rfl rfl), by decide, by decide +kernel⟩
theorem zm_1610 : zi_mf 1610 (yX8_take, cX8_take, 4, 1, 2) := ⟨rfl, rfl, zi_ini_8, by decide +kernel, (zi_t2 (j := 191) rfl rfl), by decide, by decide +kernel⟩
theorem zm_1611 : zi_mf 1611 (yX8_takeNumber, cX8_takeNumber, 5, 1, 1) := ⟨rfl, rfl, zi_ini_8, by decide +kernel, (zi_t2 (j := 211) rfl rfl), by decide, by decide +kernel⟩
theorem zm_1800 : zi_mf 1800 (yX9_init, cX9_init, 3, 0, 2) := ⟨rfl, rfl, zi_ini_9, by decide +kernel, (zi_t1 (j := 221) rfl rfl), by decide, by decide +kernel⟩
theorem zm_1801 : zi_mf 1801 (yX9_way, cX9_way, 4, 1, 3) := ⟨rfl, rfl, zi_ini_9, by decide +kernel, (zi_t4 (j := 191) rfl rfl), by decide, by decide +kernel⟩
theorem zm_1802 : zi_mf 1802 (yX9_lockAhead, cX9_lockAhead, 5, 1, 3) := ⟨rfl, rfl, zi_ini_9, by decide +kernel, (zi_t3 (j := 206) rfl rfl), by decide, by decide +kernel⟩
theorem zm_1803 : zi_mf 1803 (yX9_hindrance, cX9_hindrance, 5, 1, 3) := ⟨rfl, rfl, zi_ini_9, by decide +kernel, (zi_t3 (j := 201) rfl rfl), by decide, by decide +kernel⟩
theorem zm_1804 : zi_mf 1804 (yX9_waterFor, cX9_waterFor, 3, 1, 3) := ⟨rfl, rfl, zi_ini_9, by decide +kernel, (zi_t4 (j := 6) rfl rfl), by decide, by decide +kernel⟩
theorem zm_1805 : zi_mf 1805 (yX9_go, cX9_go, 9, 1, 3) := ⟨rfl, rfl, zi_ini_9, by decide +kernel, (zi_t3 (j := 197) rfl rfl), by decide, by decide +kernel⟩
theorem zm_1806 : zi_mf 1806 (yX9_minutesFor, cX9_minutesFor, 7, 1, 4) := ⟨rfl, rfl, zi_ini_9, by decide +kernel, (zi_t4 (j := 14) rfl rfl), by decide, by decide +kernel⟩
theorem zm_1807 : zi_mf 1807 (yX9_travel, cX9_travel, 7, 1, 3) := ⟨rfl, rfl, zi_ini_9, by decide +kernel, (zi_t4 (j := 187) rfl rfl), by decide, by decide +kernel⟩
theorem zm_1808 : zi_mf 1808 (yX9_findWays, cX9_findWays, 3, 0, 1) := ⟨rfl, rfl, zi_ini_9, by decide +kernel, (zi_t5 (j := 18) rfl rfl), by decide, by decide +kernel⟩
theorem zm_1809 : zi_mf 1809 (yX9_chordAhead, cX9_chordAhead, 5, 1, 3) := ⟨rfl, rfl, zi_ini_9, by decide +kernel, (zi_t5 (j := 22) rfl rfl), by decide, by decide +kernel⟩
theorem zm_1810 : zi_mf 1810 (yX9_keptBy, cX9_keptBy, 7, 1, 1) := ⟨rfl, rfl, zi_ini_9, by decide +kernel, (zi_t5 (j := 30) rfl rfl), by decide, by decide +kernel⟩
theorem zm_2000 : zi_mf 2000 (yX10_init, cX10_init, 1, 0, 0) := ⟨rfl, rfl, zi_ini_10, by decide +kernel, (zi_t2 (j := 46) rfl rfl), by decide, by decide +kernel⟩
theorem zm_2001 : zi_mf 2001 (yX10_read, cX10_read, 3, 1, 1) := ⟨rfl, rfl, zi_ini_10, by decide +kernel, (zi_t4 (j := 211) rfl rfl), by decide, by decide +kernel⟩
theorem zm_2002 : zi_mf 2002 (yX10_order, cX10_order, 8, 1, 2) := ⟨rfl, rfl, zi_ini_10, by decide +kernel, (zi_t4 (j := 220) rfl rfl), by decide, by decide +kernel⟩
theorem zm_2003 : zi_mf 2003 (yX10_goesUpNext, cX10_goesUpNext, 6, 2, 3) := ⟨rfl, rfl, zi_ini_10, by decide +kernel, (zi_t5 (j := 9) rfl rfl), by decide, by decide +kernel⟩
theorem zm_2004 : zi_mf 2004 (yX10_findCosts, cX10_findCosts, 4, 0, 0) := ⟨rfl, rfl, zi_ini_10, by decide +kernel, (zi_t4 (j := 224) rfl rfl), by decide, by decide +kernel⟩
theorem zm_2005 : zi_mf 2005 (yX10_costNext, cX10_costNext, 5, 1, 3) := ⟨rfl, rfl, zi_ini_10, by decide +kernel, (zi_t4 (j := 231) rfl rfl), by decide, by decide +kernel⟩
theorem zm_2006 : zi_mf 2006 (yX10_upCost, cX10_upCost, 4, 1, 3) := ⟨rfl, rfl, zi_ini_10, by decide +kernel, (zi_t5 (j := 3) rfl rfl), by decide, by decide +kernel⟩
theorem zm_2007 : zi_mf 2007 (yX10_downCost, cX10_downCost, 4, 1, 3) := ⟨rfl, rfl, zi_ini_10, by decide +kernel, (zi_t4 (j := 235) rfl rfl), by decide, by decide +kernel⟩
theorem zm_2008 : zi_mf 2008 (yX10_costAfter, cX10_costAfter, 4, 1, 3) := ⟨rfl, rfl, zi_ini_10, by decide +kernel, (zi_t4 (j := 239) rfl rfl), by decide, by decide +kernel⟩
theorem zm_2009 : zi_mf 2009 (yX10_slot, cX10_slot, 3, 1, 3) := ⟨rfl, rfl, zi_ini_10, by decide +kernel, (zi_t4 (j := 227) rfl rfl), by decide, by decide +kernel⟩
theorem zm_2200 : zi_mf 2200 (yX11_init, cX11_init, 2, 0, 0) := ⟨rfl, rfl, zi_ini_11, by decide +kernel, (zi_t1 (j := 30) rfl rfl), by decide, by decide +kernel⟩
theorem zm_2201 : zi_mf 2201 (yX11_sign, cX11_sign, 2, 1, 1) := ⟨rfl, rfl, zi_ini_11, by decide +kernel, (zi_t2 (j := 132) rfl rfl), by decide, by decide +kernel⟩
theorem zm_2202 : zi_mf 2202 (yX11_end, cX11_end, 2, 2, 1) := ⟨rfl, rfl, zi_ini_11, by decide +kernel, (zi_t2 (j := 144) rfl rfl), by decide, by decide +kernel⟩
theorem zm_2203 : zi_mf 2203 (yX11_locks, cX11_locks, 1, 1, 0) := ⟨rfl, rfl, zi_ini_11, by decide +kernel, (zi_t2 (j := 152) rfl rfl), by decide, by decide +kernel⟩
theorem zm_2204 : zi_mf 2204 (yX11_singers, cX11_singers, 1, 1, 0) := ⟨rfl, rfl, zi_ini_11, by decide +kernel, (zi_t2 (j := 237) rfl rfl), by decide, by decide +kernel⟩
theorem zm_2205 : zi_mf 2205 (yX11_barges, cX11_barges, 1, 1, 0) := ⟨rfl, rfl, zi_ini_11, by decide +kernel, (zi_t3 (j := 1) rfl rfl), by decide, by decide +kernel⟩
theorem zm_2206 : zi_mf 2206 (yX11_rule, cX11_rule, 2, 1, 0) := ⟨rfl, rfl, zi_ini_11, by decide +kernel, (zi_t3 (j := 5) rfl rfl), by decide, by decide +kernel⟩
theorem zm_2207 : zi_mf 2207 (yX11_lock, cX11_lock, 3, 1, 2) := ⟨rfl, rfl, zi_ini_11, by decide +kernel, (zi_t5 (j := 166) rfl rfl), by decide, by decide +kernel⟩
theorem zm_2208 : zi_mf 2208 (yX11_singer, cX11_singer, 3, 1, 2) := ⟨rfl, rfl, zi_ini_11, by decide +kernel, (zi_t5 (j := 234) rfl rfl), by decide, by decide +kernel⟩
theorem zm_2209 : zi_mf 2209 (yX11_barge, cX11_barge, 3, 1, 2) := ⟨rfl, rfl, zi_ini_11, by decide +kernel, (zi_t6 (j := 1) rfl rfl), by decide, by decide +kernel⟩
theorem zm_2210 : zi_mf 2210 (yX11_set, cX11_set, 4, 1, 2) := ⟨rfl, rfl, zi_ini_11, by decide +kernel, (zi_t3 (j := 133) rfl rfl), by decide, by decide +kernel⟩
theorem zm_2211 : zi_mf 2211 (yX11_sheet, cX11_sheet, 5, 1, 4) := ⟨rfl, rfl, zi_ini_11, by decide +kernel, (zi_t3 (j := 138) rfl rfl), by decide, by decide +kernel⟩
theorem zm_2212 : zi_mf 2212 (yX11_tellOf, cX11_tellOf, 4, 1, 2) := ⟨rfl, rfl, zi_ini_11, by decide +kernel, (zi_t2 (j := 156) rfl rfl), by decide, by decide +kernel⟩
theorem zm_2213 : zi_mf 2213 (yX11_readLines, cX11_readLines, 5, 1, 1) := ⟨rfl, rfl, zi_ini_11, by decide +kernel, (zi_t2 (j := 171) rfl rfl), by decide, by decide +kernel⟩
theorem zm_2214 : zi_mf 2214 (yX11_hire, cX11_hire, 3, 1, 2) := ⟨rfl, rfl, zi_ini_11, by decide +kernel, (zi_t3 (j := 151) rfl rfl), by decide, by decide +kernel⟩
theorem zm_2215 : zi_mf 2215 (yX11_leave, cX11_leave, 2, 1, 1) := ⟨rfl, rfl, zi_ini_11, by decide +kernel, (zi_t3 (j := 181) rfl rfl), by decide, by decide +kernel⟩
theorem zm_2216 : zi_mf 2216 (yX11_pass, cX11_pass, 4, 1, 2) := ⟨rfl, rfl, zi_ini_11, by decide +kernel, (zi_t3 (j := 193) rfl rfl), by decide, by decide +kernel⟩
theorem zm_2217 : zi_mf 2217 (yX11_rest, cX11_rest, 2, 1, 1) := ⟨rfl, rfl, zi_ini_11, by decide +kernel, (zi_t4 (j := 57) rfl rfl), by decide, by decide +kernel⟩
theorem zm_2218 : zi_mf 2218 (yX11_day, cX11_day, 6, 1, 0) := ⟨rfl, rfl, zi_ini_11, by decide +kernel, (zi_t4 (j := 70) rfl rfl), by decide, by decide +kernel⟩
theorem zm_2219 : zi_mf 2219 (yX11_undo, cX11_undo, 1, 1, 0) := ⟨rfl, rfl, zi_ini_11, by decide +kernel, (zi_t4 (j := 92) rfl rfl), by decide, by decide +kernel⟩
theorem zm_2220 : zi_mf 2220 (yX11_remember, cX11_remember, 2, 1, 1) := ⟨rfl, rfl, zi_ini_11, by decide +kernel, (zi_t3 (j := 172) rfl rfl), by decide, by decide +kernel⟩
theorem zm_2221 : zi_mf 2221 (yX11_takeOn, cX11_takeOn, 3, 1, 2) := ⟨rfl, rfl, zi_ini_11, by decide +kernel, (zi_t3 (j := 160) rfl rfl), by decide, by decide +kernel⟩
theorem zm_2222 : zi_mf 2222 (yX11_letGo, cX11_letGo, 3, 1, 1) := ⟨rfl, rfl, zi_ini_11, by decide +kernel, (zi_t3 (j := 185) rfl rfl), by decide, by decide +kernel⟩
theorem zm_2223 : zi_mf 2223 (yX11_takeRest, cX11_takeRest, 2, 1, 1) := ⟨rfl, rfl, zi_ini_11, by decide +kernel, (zi_t4 (j := 61) rfl rfl), by decide, by decide +kernel⟩
theorem zm_2224 : zi_mf 2224 (yX11_readActs, cX11_readActs, 3, 1, 0) := ⟨rfl, rfl, zi_ini_11, by decide +kernel, (zi_t4 (j := 74) rfl rfl), by decide, by decide +kernel⟩
theorem zm_2225 : zi_mf 2225 (yX11_readAct, cX11_readAct, 4, 1, 0) := ⟨rfl, rfl, zi_ini_11, by decide +kernel, (zi_t4 (j := 78) rfl rfl), by decide, by decide +kernel⟩
theorem zm_2226 : zi_mf 2226 (yX11_isPass, cX11_isPass, 2, 2, 1) := ⟨rfl, rfl, zi_ini_11, by decide +kernel, (zi_t4 (j := 88) rfl rfl), by decide, by decide +kernel⟩
theorem zm_2227 : zi_mf 2227 (yX11_perform, cX11_perform, 3, 1, 1) := ⟨rfl, rfl, zi_ini_11, by decide +kernel, (zi_t4 (j := 85) rfl rfl), by decide, by decide +kernel⟩
theorem zm_2228 : zi_mf 2228 (yX11_sings, cX11_sings, 3, 1, 2) := ⟨rfl, rfl, zi_ini_11, by decide +kernel, (zi_t4 (j := 104) rfl rfl), by decide, by decide +kernel⟩
theorem zm_2229 : zi_mf 2229 (yX11_lacks, cX11_lacks, 4, 1, 2) := ⟨rfl, rfl, zi_ini_11, by decide +kernel, (zi_t4 (j := 112) rfl rfl), by decide, by decide +kernel⟩
theorem zm_2230 : zi_mf 2230 (yX11_spoils, cX11_spoils, 4, 1, 2) := ⟨rfl, rfl, zi_ini_11, by decide +kernel, (zi_t4 (j := 127) rfl rfl), by decide, by decide +kernel⟩
theorem zm_2231 : zi_mf 2231 (yX11_shift, cX11_shift, 5, 1, 2) := ⟨rfl, rfl, zi_ini_11, by decide +kernel, (zi_t4 (j := 135) rfl rfl), by decide, by decide +kernel⟩
theorem zm_2232 : zi_mf 2232 (yX11_voices, cX11_voices, 4, 1, 2) := ⟨rfl, rfl, zi_ini_11, by decide +kernel, (zi_t4 (j := 143) rfl rfl), by decide, by decide +kernel⟩
theorem zm_2233 : zi_mf 2233 (yX11_singsShifted, cX11_singsShifted, 4, 2, 3) := ⟨rfl, rfl, zi_ini_11, by decide +kernel, (zi_t4 (j := 139) rfl rfl), by decide, by decide +kernel⟩
theorem zm_2234 : zi_mf 2234 (yX11_tellSong, cX11_tellSong, 2, 0, 0) := ⟨rfl, rfl, zi_ini_11, by decide +kernel, (zi_t4 (j := 45) rfl rfl), by decide, by decide +kernel⟩
theorem zm_2235 : zi_mf 2235 (yX11_tellHired, cX11_tellHired, 2, 1, 1) := ⟨rfl, rfl, zi_ini_11, by decide +kernel, (zi_t4 (j := 174) rfl rfl), by decide, by decide +kernel⟩
theorem zm_2236 : zi_mf 2236 (yX11_journey, cX11_journey, 4, 1, 2) := ⟨rfl, rfl, zi_ini_11, by decide +kernel, (zi_t4 (j := 179) rfl rfl), by decide, by decide +kernel⟩
theorem zm_2237 : zi_mf 2237 (yX11_hires, cX11_hires, 8, 1, 2) := ⟨rfl, rfl, zi_ini_11, by decide +kernel, (zi_t4 (j := 199) rfl rfl), by decide, by decide +kernel⟩
theorem zm_2238 : zi_mf 2238 (yX11_rested, cX11_rested, 5, 1, 2) := ⟨rfl, rfl, zi_ini_11, by decide +kernel, (zi_t4 (j := 203) rfl rfl), by decide, by decide +kernel⟩
theorem zm_2239 : zi_mf 2239 (yX11_queue, cX11_queue, 3, 1, 1) := ⟨rfl, rfl, zi_ini_11, by decide +kernel, (zi_t4 (j := 207) rfl rfl), by decide, by decide +kernel⟩
theorem zm_2240 : zi_mf 2240 (yX11_jams, cX11_jams, 7, 1, 0) := ⟨rfl, rfl, zi_ini_11, by decide +kernel, (zi_t5 (j := 14) rfl rfl), by decide, by decide +kernel⟩
theorem zm_2241 : zi_mf 2241 (yX11_heard, cX11_heard, 3, 1, 2) := ⟨rfl, rfl, zi_ini_11, by decide +kernel, (zi_t5 (j := 34) rfl rfl), by decide, by decide +kernel⟩
theorem zm_2242 : zi_mf 2242 (yX11_forget, cX11_forget, 2, 1, 0) := ⟨rfl, rfl, zi_ini_11, by decide +kernel, (zi_t5 (j := 46) rfl rfl), by decide, by decide +kernel⟩
theorem zm_2243 : zi_mf 2243 (yX11_who, cX11_who, 2, 1, 0) := ⟨rfl, rfl, zi_ini_11, by decide +kernel, (zi_t5 (j := 54) rfl rfl), by decide, by decide +kernel⟩
theorem zm_2244 : zi_mf 2244 (yX11_listen, cX11_listen, 6, 1, 0) := ⟨rfl, rfl, zi_ini_11, by decide +kernel, (zi_t5 (j := 62) rfl rfl), by decide, by decide +kernel⟩
theorem zm_2245 : zi_mf 2245 (yX11_parts, cX11_parts, 2, 1, 0) := ⟨rfl, rfl, zi_ini_11, by decide +kernel, (zi_t5 (j := 75) rfl rfl), by decide, by decide +kernel⟩
theorem zm_2246 : zi_mf 2246 (yX11_opens, cX11_opens, 9, 1, 2) := ⟨rfl, rfl, zi_ini_11, by decide +kernel, (zi_t5 (j := 100) rfl rfl), by decide, by decide +kernel⟩
theorem zm_2247 : zi_mf 2247 (yX11_tries, cX11_tries, 4, 1, 2) := ⟨rfl, rfl, zi_ini_11, by decide +kernel, (zi_t5 (j := 114) rfl rfl), by decide, by decide +kernel⟩
theorem zm_2248 : zi_mf 2248 (yX11_rests, cX11_rests, 5, 1, 1) := ⟨rfl, rfl, zi_ini_11, by decide +kernel, (zi_t5 (j := 119) rfl rfl), by decide, by decide +kernel⟩
theorem zm_2249 : zi_mf 2249 (yX11_pays, cX11_pays, 9, 1, 2) := ⟨rfl, rfl, zi_ini_11, by decide +kernel, (zi_t5 (j := 133) rfl rfl), by decide, by decide +kernel⟩
theorem zm_2250 : zi_mf 2250 (yX11_tellFirstPair, cX11_tellFirstPair, 4, 0, 3) := ⟨rfl, rfl, zi_ini_11, by decide +kernel, (zi_t5 (j := 129) rfl rfl), by decide, by decide +kernel⟩
theorem zm_2251 : zi_mf 2251 (yX11_chances, cX11_chances, 4, 3, 2) := ⟨rfl, rfl, zi_ini_11, by decide +kernel, (zi_t5 (j := 103) rfl rfl), by decide, by decide +kernel⟩
theorem zm_2252 : zi_mf 2252 (yX11_power, cX11_power, 6, 3, 2) := ⟨rfl, rfl, zi_ini_11, by decide +kernel, (zi_t5 (j := 106) rfl rfl), by decide, by decide +kernel⟩
theorem zm_2253 : zi_mf 2253 (yX11_commonDivisor, cX11_commonDivisor, 7, 3, 2) := ⟨rfl, rfl, zi_ini_11, by decide +kernel, (zi_t5 (j := 110) rfl rfl), by decide, by decide +kernel⟩
theorem zm_2254 : zi_mf 2254 (yX11_isBest, cX11_isBest, 5, 2, 3) := ⟨rfl, rfl, zi_ini_11, by decide +kernel, (zi_t5 (j := 122) rfl rfl), by decide, by decide +kernel⟩
theorem zm_2255 : zi_mf 2255 (yX11_gain, cX11_gain, 3, 1, 3) := ⟨rfl, rfl, zi_ini_11, by decide +kernel, (zi_t5 (j := 125) rfl rfl), by decide, by decide +kernel⟩
theorem zm_2256 : zi_mf 2256 (yX11_days, cX11_days, 8, 1, 2) := ⟨rfl, rfl, zi_ini_11, by decide +kernel, (zi_t5 (j := 138) rfl rfl), by decide, by decide +kernel⟩
theorem zm_2257 : zi_mf 2257 (yX11_drawNext, cX11_drawNext, 1, 1, 1) := ⟨rfl, rfl, zi_ini_11, by decide +kernel, (zi_t5 (j := 141) rfl rfl), by decide, by decide +kernel⟩
theorem zm_2258 : zi_mf 2258 (yX11_keep, cX11_keep, 2, 2, 1) := ⟨rfl, rfl, zi_ini_11, by decide +kernel, (zi_t5 (j := 146) rfl rfl), by decide, by decide +kernel⟩
theorem zm_2259 : zi_mf 2259 (yX11_again, cX11_again, 2, 2, 1) := ⟨rfl, rfl, zi_ini_11, by decide +kernel, (zi_t5 (j := 150) rfl rfl), by decide, by decide +kernel⟩
theorem zm_2260 : zi_mf 2260 (yX11_count, cX11_count, 2, 1, 1) := ⟨rfl, rfl, zi_ini_11, by decide +kernel, (zi_t5 (j := 154) rfl rfl), by decide, by decide +kernel⟩
theorem zm_2261 : zi_mf 2261 (yX11_row, cX11_row, 2, 3, 1) := ⟨rfl, rfl, zi_ini_11, by decide +kernel, (zi_t6 (j := 8) rfl rfl), by decide, by decide +kernel⟩
theorem zm_2400 : zi_mf 2400 (yX12_init, cX12_init, 1, 0, 0) := ⟨rfl, rfl, zi_ini_12, by decide +kernel, (zi_t6 (j := 17) rfl rfl), by decide, by decide +kernel⟩
theorem zm_2401 : zi_mf 2401 (yX12_thrown, cX12_thrown, 1, 1, 0) := ⟨rfl, rfl, zi_ini_12, by decide +kernel, (zi_t6 (j := 182) rfl rfl), by decide, by decide +kernel⟩
theorem zm_2402 : zi_mf 2402 (yX12_refuse, cX12_refuse, 1, 1, 0) := ⟨rfl, rfl, zi_ini_12, by decide +kernel, (zi_t7 (j := 77) rfl rfl), by decide, by decide +kernel⟩
theorem zm_2403 : zi_mf 2403 (yX12_in, cX12_in, 6, 2, 3) := ⟨rfl, rfl, zi_ini_12, by decide +kernel, (zi_t6 (j := 193) rfl rfl), by decide, by decide +kernel⟩
theorem zm_2404 : zi_mf 2404 (yX12_has, cX12_has, 2, 2, 2) := ⟨rfl, rfl, zi_ini_12, by decide +kernel, (zi_t7 (j := 181) rfl rfl), by decide, by decide +kernel⟩
theorem zm_2405 : zi_mf 2405 (yX12_flag, cX12_flag, 1, 1, 1) := ⟨rfl, rfl, zi_ini_12, by decide +kernel, (zi_t6 (j := 225) rfl rfl), by decide, by decide +kernel⟩
theorem zm_2406 : zi_mf 2406 (yX12_common, cX12_common, 4, 3, 2) := ⟨rfl, rfl, zi_ini_12, by decide +kernel, (zi_t8 (j := 145) rfl rfl), by decide, by decide +kernel⟩
theorem zm_2407 : zi_mf 2407 (yX12_enters, cX12_enters, 3, 0, 1) := ⟨rfl, rfl, zi_ini_12, by decide +kernel, (zi_t7 (j := 212) rfl rfl), by decide, by decide +kernel⟩
theorem zm_2408 : zi_mf 2408 (yX12_isLock, cX12_isLock, 2, 2, 1) := ⟨rfl, rfl, zi_ini_12, by decide +kernel, (zi_t7 (j := 72) rfl rfl), by decide, by decide +kernel⟩
theorem zm_2409 : zi_mf 2409 (yX12_isSinger, cX12_isSinger, 2, 2, 1) := ⟨rfl, rfl, zi_ini_12, by decide +kernel, (zi_t7 (j := 85) rfl rfl), by decide, by decide +kernel⟩
theorem zm_2410 : zi_mf 2410 (yX12_isBarge, cX12_isBarge, 2, 2, 1) := ⟨rfl, rfl, zi_ini_12, by decide +kernel, (zi_t7 (j := 106) rfl rfl), by decide, by decide +kernel⟩
theorem zm_2411 : zi_mf 2411 (yX12_isPlace, cX12_isPlace, 2, 2, 1) := ⟨rfl, rfl, zi_ini_12, by decide +kernel, (zi_t8 (j := 47) rfl rfl), by decide, by decide +kernel⟩
theorem zm_2412 : zi_mf 2412 (yX12_placeOf, cX12_placeOf, 2, 1, 2) := ⟨rfl, rfl, zi_ini_12, by decide +kernel, (zi_t7 (j := 98) rfl rfl), by decide, by decide +kernel⟩
theorem zm_2413 : zi_mf 2413 (yX12_crewOf, cX12_crewOf, 2, 1, 2) := ⟨rfl, rfl, zi_ini_12, by decide +kernel, (zi_t7 (j := 95) rfl rfl), by decide, by decide +kernel⟩
theorem zm_2414 : zi_mf 2414 (yX12_tiredOf, cX12_tiredOf, 2, 1, 2) := ⟨rfl, rfl, zi_ini_12, by decide +kernel, (zi_t7 (j := 88) rfl rfl), by decide, by decide +kernel⟩
theorem zm_2415 : zi_mf 2415 (yX12_crew, cX12_crew, 5, 1, 2) := ⟨rfl, rfl, zi_ini_12, by decide +kernel, (zi_t7 (j := 111) rfl rfl), by decide, by decide +kernel⟩
theorem zm_2416 : zi_mf 2416 (yX12_whereIs, cX12_whereIs, 3, 1, 1) := ⟨rfl, rfl, zi_ini_12, by decide +kernel, (zi_t7 (j := 92) rfl rfl), by decide, by decide +kernel⟩
theorem zm_2417 : zi_mf 2417 (yX12_sign, cX12_sign, 3, 1, 1) := ⟨rfl, rfl, zi_ini_12, by decide +kernel, (zi_t6 (j := 186) rfl rfl), by decide, by decide +kernel⟩
theorem zm_2418 : zi_mf 2418 (yX12_end, cX12_end, 2, 2, 1) := ⟨rfl, rfl, zi_ini_12, by decide +kernel, (zi_t6 (j := 190) rfl rfl), by decide, by decide +kernel⟩
theorem zm_2419 : zi_mf 2419 (yX12_begins, cX12_begins, 3, 1, 1) := ⟨rfl, rfl, zi_ini_12, by decide +kernel, (zi_t6 (j := 205) rfl rfl), by decide, by decide +kernel⟩
theorem zm_2420 : zi_mf 2420 (yX12_takes, cX12_takes, 3, 2, 1) := ⟨rfl, rfl, zi_ini_12, by decide +kernel, (zi_t6 (j := 222) rfl rfl), by decide, by decide +kernel⟩
theorem zm_2421 : zi_mf 2421 (yX12_isDigit, cX12_isDigit, 1, 2, 0) := ⟨rfl, rfl, zi_ini_12, by decide +kernel, (zi_t6 (j := 233) rfl rfl), by decide, by decide +kernel⟩
theorem zm_2422 : zi_mf 2422 (yX12_among, cX12_among, 3, 1, 1) := ⟨rfl, rfl, zi_ini_12, by decide +kernel, (zi_t7 (j := 40) rfl rfl), by decide, by decide +kernel⟩
theorem zm_2423 : zi_mf 2423 (yX12_takesOf, cX12_takesOf, 3, 1, 1) := ⟨rfl, rfl, zi_ini_12, by decide +kernel, (zi_t7 (j := 36) rfl rfl), by decide, by decide +kernel⟩
theorem zm_2424 : zi_mf 2424 (yX12_number, cX12_number, 4, 1, 1) := ⟨rfl, rfl, zi_ini_12, by decide +kernel, (zi_t6 (j := 229) rfl rfl), by decide, by decide +kernel⟩
theorem zm_2425 : zi_mf 2425 (yX12_signIn, cX12_signIn, 4, 1, 3) := ⟨rfl, rfl, zi_ini_12, by decide +kernel, (zi_t6 (j := 214) rfl rfl), by decide, by decide +kernel⟩
theorem zm_2426 : zi_mf 2426 (yX12_faultOf, cX12_faultOf, 5, 1, 3) := ⟨rfl, rfl, zi_ini_12, by decide +kernel, (zi_t7 (j := 3) rfl rfl), by decide, by decide +kernel⟩
theorem zm_2427 : zi_mf 2427 (yX12_readsLock, cX12_readsLock, 3, 2, 0) := ⟨rfl, rfl, zi_ini_12, by decide +kernel, (zi_t6 (j := 210) rfl rfl), by decide, by decide +kernel⟩
theorem zm_2428 : zi_mf 2428 (yX12_readsSinger, cX12_readsSinger, 2, 2, 0) := ⟨rfl, rfl, zi_ini_12, by decide +kernel, (zi_t6 (j := 218) rfl rfl), by decide, by decide +kernel⟩
theorem zm_2429 : zi_mf 2429 (yX12_readsBarge, cX12_readsBarge, 2, 2, 0) := ⟨rfl, rfl, zi_ini_12, by decide +kernel, (zi_t6 (j := 239) rfl rfl), by decide, by decide +kernel⟩
theorem zm_2430 : zi_mf 2430 (yX12_readsLines, cX12_readsLines, 6, 1, 2) := ⟨rfl, rfl, zi_ini_12, by decide +kernel, (zi_t6 (j := 201) rfl rfl), by decide, by decide +kernel⟩
theorem zm_2431 : zi_mf 2431 (yX12_came, cX12_came, 1, 1, 0) := ⟨rfl, rfl, zi_ini_12, by decide +kernel, (zi_t7 (j := 7) rfl rfl), by decide, by decide +kernel⟩
theorem zm_2432 : zi_mf 2432 (yX12_locks, cX12_locks, 4, 1, 0) := ⟨rfl, rfl, zi_ini_12, by decide +kernel, (zi_t6 (j := 197) rfl rfl), by decide, by decide +kernel⟩
theorem zm_2433 : zi_mf 2433 (yX12_singers, cX12_singers, 3, 1, 0) := ⟨rfl, rfl, zi_ini_12, by decide +kernel, (zi_t7 (j := 11) rfl rfl), by decide, by decide +kernel⟩
theorem zm_2434 : zi_mf 2434 (yX12_barges, cX12_barges, 3, 1, 0) := ⟨rfl, rfl, zi_ini_12, by decide +kernel, (zi_t7 (j := 15) rfl rfl), by decide, by decide +kernel⟩
theorem zm_2435 : zi_mf 2435 (yX12_codes, cX12_codes, 2, 0, 1) := ⟨rfl, rfl, zi_ini_12, by decide +kernel, (zi_t7 (j := 31) rfl rfl), by decide, by decide +kernel⟩
theorem zm_2436 : zi_mf 2436 (yX12_readsThing, cX12_readsThing, 2, 2, 0) := ⟨rfl, rfl, zi_ini_12, by decide +kernel, (zi_t7 (j := 27) rfl rfl), by decide, by decide +kernel⟩
theorem zm_2437 : zi_mf 2437 (yX12_readsRank, cX12_readsRank, 4, 2, 1) := ⟨rfl, rfl, zi_ini_12, by decide +kernel, (zi_t7 (j := 23) rfl rfl), by decide, by decide +kernel⟩
theorem zm_2438 : zi_mf 2438 (yX12_rule, cX12_rule, 5, 1, 0) := ⟨rfl, rfl, zi_ini_12, by decide +kernel, (zi_t7 (j := 19) rfl rfl), by decide, by decide +kernel⟩
theorem zm_2439 : zi_mf 2439 (yX12_worked, cX12_worked, 3, 1, 3) := ⟨rfl, rfl, zi_ini_12, by decide +kernel, (zi_t7 (j := 204) rfl rfl), by decide, by decide +kernel⟩
theorem zm_2440 : zi_mf 2440 (yX12_ruled, cX12_ruled, 4, 1, 0) := ⟨rfl, rfl, zi_ini_12, by decide +kernel, (zi_t7 (j := 201) rfl rfl), by decide, by decide +kernel⟩
theorem zm_2441 : zi_mf 2441 (yX12_tiredAll, cX12_tiredAll, 5, 1, 2) := ⟨rfl, rfl, zi_ini_12, by decide +kernel, (zi_t7 (j := 196) rfl rfl), by decide, by decide +kernel⟩
theorem zm_2442 : zi_mf 2442 (yX12_minutes, cX12_minutes, 6, 1, 4) := ⟨rfl, rfl, zi_ini_12, by decide +kernel, (zi_t7 (j := 192) rfl rfl), by decide, by decide +kernel⟩
theorem zm_2443 : zi_mf 2443 (yX12_laysNotes, cX12_laysNotes, 4, 0, 2) := ⟨rfl, rfl, zi_ini_12, by decide +kernel, (zi_t7 (j := 174) rfl rfl), by decide, by decide +kernel⟩
theorem zm_2444 : zi_mf 2444 (yX12_canSing, cX12_canSing, 4, 2, 3) := ⟨rfl, rfl, zi_ini_12, by decide +kernel, (zi_t7 (j := 185) rfl rfl), by decide, by decide +kernel⟩
theorem zm_2445 : zi_mf 2445 (yX12_singsFrom, cX12_singsFrom, 6, 2, 4) := ⟨rfl, rfl, zi_ini_12, by decide +kernel, (zi_t7 (j := 178) rfl rfl), by decide, by decide +kernel⟩
theorem zm_2446 : zi_mf 2446 (yX12_singsChord, cX12_singsChord, 4, 2, 3) := ⟨rfl, rfl, zi_ini_12, by decide +kernel, (zi_t7 (j := 170) rfl rfl), by decide, by decide +kernel⟩
theorem zm_2447 : zi_mf 2447 (yX12_tellsSung, cX12_tellsSung, 2, 0, 0) := ⟨rfl, rfl, zi_ini_12, by decide +kernel, (zi_t7 (j := 208) rfl rfl), by decide, by decide +kernel⟩
theorem zm_2448 : zi_mf 2448 (yX12_lock, cX12_lock, 3, 1, 2) := ⟨rfl, rfl, zi_ini_12, by decide +kernel, (zi_t7 (j := 68) rfl rfl), by decide, by decide +kernel⟩
theorem zm_2449 : zi_mf 2449 (yX12_singer, cX12_singer, 3, 1, 2) := ⟨rfl, rfl, zi_ini_12, by decide +kernel, (zi_t7 (j := 81) rfl rfl), by decide, by decide +kernel⟩
theorem zm_2450 : zi_mf 2450 (yX12_barge, cX12_barge, 3, 1, 2) := ⟨rfl, rfl, zi_ini_12, by decide +kernel, (zi_t7 (j := 102) rfl rfl), by decide, by decide +kernel⟩
theorem zm_2451 : zi_mf 2451 (yX12_set, cX12_set, 4, 1, 2) := ⟨rfl, rfl, zi_ini_12, by decide +kernel, (zi_t7 (j := 115) rfl rfl), by decide, by decide +kernel⟩
theorem zm_2452 : zi_mf 2452 (yX12_sheet, cX12_sheet, 9, 1, 4) := ⟨rfl, rfl, zi_ini_12, by decide +kernel, (zi_t7 (j := 121) rfl rfl), by decide, by decide +kernel⟩
theorem zm_2453 : zi_mf 2453 (yX12_putsBy, cX12_putsBy, 2, 0, 0) := ⟨rfl, rfl, zi_ini_12, by decide +kernel, (zi_t7 (j := 134) rfl rfl), by decide, by decide +kernel⟩
theorem zm_2454 : zi_mf 2454 (yX12_adds, cX12_adds, 3, 1, 1) := ⟨rfl, rfl, zi_ini_12, by decide +kernel, (zi_t7 (j := 146) rfl rfl), by decide, by decide +kernel⟩
theorem zm_2455 : zi_mf 2455 (yX12_counts, cX12_counts, 2, 1, 1) := ⟨rfl, rfl, zi_ini_12, by decide +kernel, (zi_t7 (j := 142) rfl rfl), by decide, by decide +kernel⟩
theorem zm_2456 : zi_mf 2456 (yX12_undo, cX12_undo, 2, 1, 0) := ⟨rfl, rfl, zi_ini_12, by decide +kernel, (zi_t7 (j := 126) rfl rfl), by decide, by decide +kernel⟩
theorem zm_2457 : zi_mf 2457 (yX12_hiresTo, cX12_hiresTo, 5, 1, 3) := ⟨rfl, rfl, zi_ini_12, by decide +kernel, (zi_t7 (j := 138) rfl rfl), by decide, by decide +kernel⟩
theorem zm_2458 : zi_mf 2458 (yX12_leaves, cX12_leaves, 4, 1, 2) := ⟨rfl, rfl, zi_ini_12, by decide +kernel, (zi_t7 (j := 154) rfl rfl), by decide, by decide +kernel⟩
theorem zm_2459 : zi_mf 2459 (yX12_waterFor, cX12_waterFor, 2, 1, 2) := ⟨rfl, rfl, zi_ini_12, by decide +kernel, (zi_t7 (j := 188) rfl rfl), by decide, by decide +kernel⟩
theorem zm_2460 : zi_mf 2460 (yX12_whyNot, cX12_whyNot, 5, 1, 3) := ⟨rfl, rfl, zi_ini_12, by decide +kernel, (zi_t7 (j := 166) rfl rfl), by decide, by decide +kernel⟩
theorem zm_2461 : zi_mf 2461 (yX12_passes, cX12_passes, 9, 1, 3) := ⟨rfl, rfl, zi_ini_12, by decide +kernel, (zi_t7 (j := 162) rfl rfl), by decide, by decide +kernel⟩
theorem zm_2462 : zi_mf 2462 (yX12_restsFor, cX12_restsFor, 5, 0, 2) := ⟨rfl, rfl, zi_ini_12, by decide +kernel, (zi_t7 (j := 221) rfl rfl), by decide, by decide +kernel⟩
theorem zm_2463 : zi_mf 2463 (yX12_hire, cX12_hire, 3, 1, 2) := ⟨rfl, rfl, zi_ini_12, by decide +kernel, (zi_t7 (j := 130) rfl rfl), by decide, by decide +kernel⟩
theorem zm_2464 : zi_mf 2464 (yX12_leave, cX12_leave, 2, 1, 1) := ⟨rfl, rfl, zi_ini_12, by decide +kernel, (zi_t7 (j := 150) rfl rfl), by decide, by decide +kernel⟩
theorem zm_2465 : zi_mf 2465 (yX12_pass, cX12_pass, 4, 1, 2) := ⟨rfl, rfl, zi_ini_12, by decide +kernel, (zi_t7 (j := 158) rfl rfl), by decide, by decide +kernel⟩
theorem zm_2466 : zi_mf 2466 (yX12_rest, cX12_rest, 2, 1, 1) := ⟨rfl, rfl, zi_ini_12, by decide +kernel, (zi_t7 (j := 216) rfl rfl), by decide, by decide +kernel⟩
theorem zm_2467 : zi_mf 2467 (yX12_readsAct, cX12_readsAct, 2, 2, 0) := ⟨rfl, rfl, zi_ini_12, by decide +kernel, (zi_t7 (j := 229) rfl rfl), by decide, by decide +kernel⟩
theorem zm_2468 : zi_mf 2468 (yX12_does, cX12_does, 4, 2, 1) := ⟨rfl, rfl, zi_ini_12, by decide +kernel, (zi_t7 (j := 234) rfl rfl), by decide, by decide +kernel⟩
theorem zm_2469 : zi_mf 2469 (yX12_day, cX12_day, 6, 1, 0) := ⟨rfl, rfl, zi_ini_12, by decide +kernel, (zi_t7 (j := 225) rfl rfl), by decide, by decide +kernel⟩
theorem zm_2470 : zi_mf 2470 (yX12_isPair, cX12_isPair, 3, 2, 2) := ⟨rfl, rfl, zi_ini_12, by decide +kernel, (zi_t8 (j := 2) rfl rfl), by decide, by decide +kernel⟩
theorem zm_2471 : zi_mf 2471 (yX12_sings, cX12_sings, 4, 1, 2) := ⟨rfl, rfl, zi_ini_12, by decide +kernel, (zi_t7 (j := 238) rfl rfl), by decide, by decide +kernel⟩
theorem zm_2472 : zi_mf 2472 (yX12_lacks, cX12_lacks, 6, 1, 2) := ⟨rfl, rfl, zi_ini_12, by decide +kernel, (zi_t8 (j := 6) rfl rfl), by decide, by decide +kernel⟩
theorem zm_2473 : zi_mf 2473 (yX12_spoils, cX12_spoils, 7, 1, 2) := ⟨rfl, rfl, zi_ini_12, by decide +kernel, (zi_t8 (j := 10) rfl rfl), by decide, by decide +kernel⟩
theorem zm_2474 : zi_mf 2474 (yX12_isShift, cX12_isShift, 6, 2, 3) := ⟨rfl, rfl, zi_ini_12, by decide +kernel, (zi_t8 (j := 18) rfl rfl), by decide, by decide +kernel⟩
theorem zm_2475 : zi_mf 2475 (yX12_shift, cX12_shift, 5, 1, 2) := ⟨rfl, rfl, zi_ini_12, by decide +kernel, (zi_t8 (j := 14) rfl rfl), by decide, by decide +kernel⟩
theorem zm_2476 : zi_mf 2476 (yX12_fees, cX12_fees, 4, 1, 1) := ⟨rfl, rfl, zi_ini_12, by decide +kernel, (zi_t8 (j := 39) rfl rfl), by decide, by decide +kernel⟩
theorem zm_2477 : zi_mf 2477 (yX12_isCheaper, cX12_isCheaper, 3, 2, 2) := ⟨rfl, rfl, zi_ini_12, by decide +kernel, (zi_t8 (j := 35) rfl rfl), by decide, by decide +kernel⟩
theorem zm_2478 : zi_mf 2478 (yX12_voicesOf, cX12_voicesOf, 7, 1, 3) := ⟨rfl, rfl, zi_ini_12, by decide +kernel, (zi_t8 (j := 31) rfl rfl), by decide, by decide +kernel⟩
theorem zm_2479 : zi_mf 2479 (yX12_freeAt, cX12_freeAt, 4, 1, 1) := ⟨rfl, rfl, zi_ini_12, by decide +kernel, (zi_t8 (j := 27) rfl rfl), by decide, by decide +kernel⟩
theorem zm_2480 : zi_mf 2480 (yX12_voices, cX12_voices, 4, 1, 2) := ⟨rfl, rfl, zi_ini_12, by decide +kernel, (zi_t8 (j := 23) rfl rfl), by decide, by decide +kernel⟩
theorem zm_2481 : zi_mf 2481 (yX12_puts, cX12_puts, 2, 0, 0) := ⟨rfl, rfl, zi_ini_12, by decide +kernel, (zi_t8 (j := 51) rfl rfl), by decide, by decide +kernel⟩
theorem zm_2482 : zi_mf 2482 (yX12_goesTo, cX12_goesTo, 4, 1, 2) := ⟨rfl, rfl, zi_ini_12, by decide +kernel, (zi_t8 (j := 55) rfl rfl), by decide, by decide +kernel⟩
theorem zm_2483 : zi_mf 2483 (yX12_journey, cX12_journey, 4, 1, 2) := ⟨rfl, rfl, zi_ini_12, by decide +kernel, (zi_t8 (j := 43) rfl rfl), by decide, by decide +kernel⟩
theorem zm_2484 : zi_mf 2484 (yX12_singsAll, cX12_singsAll, 9, 2, 3) := ⟨rfl, rfl, zi_ini_12, by decide +kernel, (zi_t8 (j := 63) rfl rfl), by decide, by decide +kernel⟩
theorem zm_2485 : zi_mf 2485 (yX12_hires, cX12_hires, 7, 1, 2) := ⟨rfl, rfl, zi_ini_12, by decide +kernel, (zi_t8 (j := 59) rfl rfl), by decide, by decide +kernel⟩
theorem zm_2486 : zi_mf 2486 (yX12_rested, cX12_rested, 5, 1, 2) := ⟨rfl, rfl, zi_ini_12, by decide +kernel, (zi_t8 (j := 67) rfl rfl), by decide, by decide +kernel⟩
theorem zm_2487 : zi_mf 2487 (yX12_spot, cX12_spot, 3, 1, 3) := ⟨rfl, rfl, zi_ini_12, by decide +kernel, (zi_t8 (j := 87) rfl rfl), by decide, by decide +kernel⟩
theorem zm_2488 : zi_mf 2488 (yX12_costOf, cX12_costOf, 2, 1, 2) := ⟨rfl, rfl, zi_ini_12, by decide +kernel, (zi_t8 (j := 84) rfl rfl), by decide, by decide +kernel⟩
theorem zm_2489 : zi_mf 2489 (yX12_yetBy, cX12_yetBy, 5, 1, 4) := ⟨rfl, rfl, zi_ini_12, by decide +kernel, (zi_t8 (j := 80) rfl rfl), by decide, by decide +kernel⟩
theorem zm_2490 : zi_mf 2490 (yX12_laysQueue, cX12_laysQueue, 5, 0, 0) := ⟨rfl, rfl, zi_ini_12, by decide +kernel, (zi_t8 (j := 76) rfl rfl), by decide, by decide +kernel⟩
theorem zm_2491 : zi_mf 2491 (yX12_queue, cX12_queue, 10, 1, 1) := ⟨rfl, rfl, zi_ini_12, by decide +kernel, (zi_t8 (j := 71) rfl rfl), by decide, by decide +kernel⟩
theorem zm_2492 : zi_mf 2492 (yX12_passing, cX12_passing, 3, 1, 0) := ⟨rfl, rfl, zi_ini_12, by decide +kernel, (zi_t8 (j := 95) rfl rfl), by decide, by decide +kernel⟩
theorem zm_2493 : zi_mf 2493 (yX12_jams, cX12_jams, 9, 1, 0) := ⟨rfl, rfl, zi_ini_12, by decide +kernel, (zi_t8 (j := 91) rfl rfl), by decide, by decide +kernel⟩
theorem zm_2494 : zi_mf 2494 (yX12_heard, cX12_heard, 3, 1, 2) := ⟨rfl, rfl, zi_ini_12, by decide +kernel, (zi_t8 (j := 99) rfl rfl), by decide, by decide +kernel⟩
theorem zm_2495 : zi_mf 2495 (yX12_forget, cX12_forget, 2, 1, 0) := ⟨rfl, rfl, zi_ini_12, by decide +kernel, (zi_t8 (j := 103) rfl rfl), by decide, by decide +kernel⟩
theorem zm_2496 : zi_mf 2496 (yX12_singersOf, cX12_singersOf, 4, 1, 1) := ⟨rfl, rfl, zi_ini_12, by decide +kernel, (zi_t8 (j := 115) rfl rfl), by decide, by decide +kernel⟩
theorem zm_2497 : zi_mf 2497 (yX12_fitting, cX12_fitting, 3, 1, 0) := ⟨rfl, rfl, zi_ini_12, by decide +kernel, (zi_t8 (j := 111) rfl rfl), by decide, by decide +kernel⟩
theorem zm_2498 : zi_mf 2498 (yX12_who, cX12_who, 2, 1, 0) := ⟨rfl, rfl, zi_ini_12, by decide +kernel, (zi_t8 (j := 107) rfl rfl), by decide, by decide +kernel⟩
theorem zm_2499 : zi_mf 2499 (yX12_listen, cX12_listen, 6, 1, 0) := ⟨rfl, rfl, zi_ini_12, by decide +kernel, (zi_t8 (j := 119) rfl rfl), by decide, by decide +kernel⟩
theorem zm_2500 : zi_mf 2500 (yX12_isParted, cX12_isParted, 8, 2, 2) := ⟨rfl, rfl, zi_ini_12, by decide +kernel, (zi_t8 (j := 131) rfl rfl), by decide, by decide +kernel⟩
theorem zm_2501 : zi_mf 2501 (yX12_partsBy, cX12_partsBy, 7, 1, 4) := ⟨rfl, rfl, zi_ini_12, by decide +kernel, (zi_t8 (j := 127) rfl rfl), by decide, by decide +kernel⟩
theorem zm_2502 : zi_mf 2502 (yX12_parts, cX12_parts, 4, 1, 0) := ⟨rfl, rfl, zi_ini_12, by decide +kernel, (zi_t8 (j := 123) rfl rfl), by decide, by decide +kernel⟩
theorem zm_2503 : zi_mf 2503 (yX12_bets, cX12_bets, 8, 0, 2) := ⟨rfl, rfl, zi_ini_12, by decide +kernel, (zi_t8 (j := 141) rfl rfl), by decide, by decide +kernel⟩
theorem zm_2504 : zi_mf 2504 (yX12_opens, cX12_opens, 5, 1, 2) := ⟨rfl, rfl, zi_ini_12, by decide +kernel, (zi_t8 (j := 135) rfl rfl), by decide, by decide +kernel⟩
theorem zm_2505 : zi_mf 2505 (yX12_tries, cX12_tries, 4, 1, 2) := ⟨rfl, rfl, zi_ini_12, by decide +kernel, (zi_t8 (j := 149) rfl rfl), by decide, by decide +kernel⟩
theorem zm_2506 : zi_mf 2506 (yX12_earns, cX12_earns, 3, 1, 3) := ⟨rfl, rfl, zi_ini_12, by decide +kernel, (zi_t8 (j := 161) rfl rfl), by decide, by decide +kernel⟩
theorem zm_2507 : zi_mf 2507 (yX12_isRest, cX12_isRest, 5, 2, 3) := ⟨rfl, rfl, zi_ini_12, by decide +kernel, (zi_t8 (j := 158) rfl rfl), by decide, by decide +kernel⟩
theorem zm_2508 : zi_mf 2508 (yX12_rests, cX12_rests, 5, 1, 1) := ⟨rfl, rfl, zi_ini_12, by decide +kernel, (zi_t8 (j := 154) rfl rfl), by decide, by decide +kernel⟩
theorem zm_2509 : zi_mf 2509 (yX12_pays, cX12_pays, 9, 1, 2) := ⟨rfl, rfl, zi_ini_12, by decide +kernel, (zi_t8 (j := 165) rfl rfl), by decide, by decide +kernel⟩
theorem zm_2510 : zi_mf 2510 (yX12_days, cX12_days, 8, 1, 2) := ⟨rfl, rfl, zi_ini_12, by decide +kernel, (zi_t8 (j := 169) rfl rfl), by decide, by decide +kernel⟩
theorem zm_2511 : zi_mf 2511 (yX12_keep, cX12_keep, 3, 2, 1) := ⟨rfl, rfl, zi_ini_12, by decide +kernel, (zi_t8 (j := 175) rfl rfl), by decide, by decide +kernel⟩
theorem zm_2512 : zi_mf 2512 (yX12_again, cX12_again, 3, 2, 1) := ⟨rfl, rfl, zi_ini_12, by decide +kernel, (zi_t8 (j := 180) rfl rfl), by decide, by decide +kernel⟩
theorem zm_2513 : zi_mf 2513 (yX12_levels, cX12_levels, 3, 1, 0) := ⟨rfl, rfl, zi_ini_12, by decide +kernel, (zi_t8 (j := 188) rfl rfl), by decide, by decide +kernel⟩
theorem zm_2514 : zi_mf 2514 (yX12_count, cX12_count, 2, 1, 1) := ⟨rfl, rfl, zi_ini_12, by decide +kernel, (zi_t8 (j := 184) rfl rfl), by decide, by decide +kernel⟩
theorem zm_2515 : zi_mf 2515 (yX12_row, cX12_row, 2, 3, 1) := ⟨rfl, rfl, zi_ini_12, by decide +kernel, (zi_t8 (j := 192) rfl rfl), by decide, by decide +kernel⟩
theorem zm_2800 : zi_mf 2800 (yJ6_bitCount_0f7a4, cJ6_bitCount_0f7a4, 1, 1, 1) := ⟨rfl, rfl, zi_ini_14, by decide +kernel, (zi_t3 (j := 220) rfl rfl), by decide, by decide +kernel⟩
theorem zm_3000 : zi_mf 3000 (yJ0_length_8abf5, cJ0_length_8abf5, 1, 1, 0) := ⟨rfl, rfl, zi_ini_15, by decide +kernel, (zi_t3 (j := 58) rfl rfl), by decide, by decide +kernel⟩
theorem zm_3001 : zi_mf 3001 (yJ0_charAt_5068e, cJ0_charAt_5068e, 2, 4, 1) := ⟨rfl, rfl, zi_ini_15, by decide +kernel, (zi_t7 (j := 45) rfl rfl), by decide, by decide +kernel⟩
theorem zm_3002 : zi_mf 3002 (yJ0_indexOf_0f7a4, cJ0_indexOf_0f7a4, 2, 1, 1) := ⟨rfl, rfl, zi_ini_15, by decide +kernel, (zi_t3 (j := 44) rfl rfl), by decide, by decide +kernel⟩
theorem zm_3003 : zi_mf 3003 (yJ0_indexOf_7cf53, cJ0_indexOf_7cf53, 3, 1, 2) := ⟨rfl, rfl, zi_ini_15, by decide +kernel, (zi_t3 (j := 48) rfl rfl), by decide, by decide +kernel⟩
theorem zm_3004 : zi_mf 3004 (yJ0_coder_7d493, cJ0_coder_7d493, 1, 5, 0) := ⟨rfl, rfl, zi_ini_15, by decide +kernel, (zi_t3 (j := 62) rfl rfl), by decide, by decide +kernel⟩
theorem zm_3005 : zi_mf 3005 (yJ0_isLatin1_aae02, cJ0_isLatin1_aae02, 1, 2, 0) := ⟨rfl, rfl, zi_ini_15, by decide +kernel, (zi_t3 (j := 52) rfl rfl), by decide, by decide +kernel⟩
theorem zm_3200 : zi_mf 3200 (yJ1_charAt_3b067, cJ1_charAt_3b067, 2, 4, 2) := ⟨rfl, rfl, zi_ini_16, by decide +kernel, (zi_t7 (j := 48) rfl rfl), by decide, by decide +kernel⟩
theorem zm_3201 : zi_mf 3201 (yJ1_canEncode_9a6ad, cJ1_canEncode_9a6ad, 1, 2, 1) := ⟨rfl, rfl, zi_ini_16, by decide +kernel, (zi_t3 (j := 68) rfl rfl), by decide, by decide +kernel⟩
theorem zm_3202 : zi_mf 3202 (yJ1_indexOf_4cfef, cJ1_indexOf_4cfef, 4, 1, 4) := ⟨rfl, rfl, zi_ini_16, by decide +kernel, (zi_t3 (j := 65) rfl rfl), by decide, by decide +kernel⟩
theorem zm_3203 : zi_mf 3203 (yJ1_indexOfChar_4cfef, cJ1_indexOfChar_4cfef, 6, 1, 4) := ⟨rfl, rfl, zi_ini_16, by decide +kernel, (zi_t3 (j := 75) rfl rfl), by decide, by decide +kernel⟩
theorem zF_0 : zi_gG 0 18 0 1 := (Or.inl ⟨_, rfl, by decide, (Or.inl (zi_t1 (j := 102) rfl rfl))⟩)
theorem zF_1 : zi_gG 0 22 0 2 := (Or.inl ⟨_, rfl, by decide, (Or.inl (zi_t1 (j := 105) rfl rfl))⟩)
theorem zF_2 : zi_gG 0 25 0 3 := (Or.inl ⟨_, rfl, by decide, (Or.inl (zi_t1 (j := 108) rfl rfl))⟩)
theorem zF_3 : zi_gG 0 28 0 4 := (Or.inl ⟨_, rfl, by decide, (Or.inl (zi_t1 (j := 111) rfl rfl))⟩)
theorem zF_4 : zi_gG 0 31 0 5 := (Or.inl ⟨_, rfl, by decide, (Or.inl (zi_t1 (j := 114) rfl rfl))⟩)
theorem zF_5 : zi_gG 0 34 0 6 := (Or.inl ⟨_, rfl, by decide, (Or.inl (zi_t1 (j := 116) rfl rfl))⟩)
theorem zF_6 : zi_gG 0 37 0 7 := (Or.inl ⟨_, rfl, by decide, (Or.inl (zi_t1 (j := 119) rfl rfl))⟩)
theorem zF_7 : zi_gG 0 41 0 8 := (Or.inl ⟨_, rfl, by decide, (Or.inl (zi_t1 (j := 120) rfl rfl))⟩)
theorem zF_8 : zi_gG 0 44 0 9 := (Or.inl ⟨_, rfl, by decide, (Or.inl (zi_t1 (j := 123) rfl rfl))⟩)
theorem zF_9 : zi_gG 0 72 3 3 := (Or.inl ⟨_, rfl, by decide, (Or.inr ⟨_, (zi_n1 (j := 166) rfl rfl)⟩)⟩)
theorem zF_10 : zi_gG 0 77 3 4 := (Or.inl ⟨_, rfl, by decide, (Or.inr ⟨_, (zi_n1 (j := 170) rfl rfl)⟩)⟩)
theorem zF_11 : zi_gG 0 80 3 5 := (Or.inl ⟨_, rfl, by decide, (Or.inr ⟨_, (zi_n1 (j := 174) rfl rfl)⟩)⟩)
theorem zF_12 : zi_gG 0 83 3 6 := (Or.inl ⟨_, rfl, by decide, (Or.inr ⟨_, (zi_n1 (j := 178) rfl rfl)⟩)⟩)
theorem zF_13 : zi_gG 0 86 3 7 := (Or.inl ⟨_, rfl, by decide, (Or.inr ⟨_, (zi_n1 (j := 181) rfl rfl)⟩)⟩)
theorem zF_14 : zi_gG 0 100 0 10 := (Or.inl ⟨_, rfl, by decide, (Or.inl (zi_t1 (j := 127) rfl rfl))⟩)
theorem zF_15 : zi_gG 1 9 1 1 := (Or.inl ⟨_, rfl, by decide, (Or.inl (zi_t1 (j := 206) rfl rfl))⟩)
theorem zF_16 : zi_gG 1 15 1 2 := (Or.inl ⟨_, rfl, by decide, (Or.inl (zi_t1 (j := 207) rfl rfl))⟩)
theorem zF_17 : zi_gG 1 18 1 0 := (Or.inl ⟨_, rfl, by decide, (Or.inl (zi_t1 (j := 205) rfl rfl))⟩)
theorem zF_18 : zi_gG 1 22 0 1 := (Or.inl ⟨_, rfl, by decide, (Or.inr ⟨_, (zi_n1 (j := 103) rfl rfl)⟩)⟩)
theorem zF_19 : zi_gG 2 11 2 2 := (Or.inl ⟨_, rfl, by decide, (Or.inl (zi_t2 (j := 8) rfl rfl))⟩)
theorem zF_20 : zi_gG 2 15 2 0 := (Or.inl ⟨_, rfl, by decide, (Or.inl (zi_t2 (j := 6) rfl rfl))⟩)
theorem zF_21 : zi_gG 2 19 2 1 := (Or.inl ⟨_, rfl, by decide, (Or.inl (zi_t2 (j := 7) rfl rfl))⟩)
theorem zF_22 : zi_gG 3 9 3 1 := (Or.inl ⟨_, rfl, by decide, (Or.inl (zi_t1 (j := 159) rfl rfl))⟩)
theorem zF_23 : zi_gG 3 15 3 3 := (Or.inl ⟨_, rfl, by decide, (Or.inl (zi_t1 (j := 165) rfl rfl))⟩)
theorem zF_24 : zi_gG 3 19 3 4 := (Or.inl ⟨_, rfl, by decide, (Or.inl (zi_t1 (j := 168) rfl rfl))⟩)
theorem zF_25 : zi_gG 3 22 3 5 := (Or.inl ⟨_, rfl, by decide, (Or.inl (zi_t1 (j := 171) rfl rfl))⟩)
theorem zF_26 : zi_gG 3 25 3 6 := (Or.inl ⟨_, rfl, by decide, (Or.inl (zi_t1 (j := 175) rfl rfl))⟩)
theorem zF_27 : zi_gG 3 28 3 7 := (Or.inl ⟨_, rfl, by decide, (Or.inl (zi_t1 (j := 179) rfl rfl))⟩)
theorem zF_28 : zi_gG 3 31 3 0 := (Or.inl ⟨_, rfl, by decide, (Or.inl (zi_t1 (j := 157) rfl rfl))⟩)
theorem zF_29 : zi_gG 3 34 3 2 := (Or.inl ⟨_, rfl, by decide, (Or.inl (zi_t1 (j := 162) rfl rfl))⟩)
theorem zF_30 : zi_gG 4 9 4 1 := (Or.inl ⟨_, rfl, by decide, (Or.inl (zi_t2 (j := 24) rfl rfl))⟩)
theorem zF_31 : zi_gG 4 15 4 0 := (Or.inl ⟨_, rfl, by decide, (Or.inl (zi_t2 (j := 23) rfl rfl))⟩)
theorem zF_32 : zi_gG 4 19 4 4 := (Or.inl ⟨_, rfl, by decide, (Or.inl (zi_t2 (j := 27) rfl rfl))⟩)
theorem zF_33 : zi_gG 4 23 4 2 := (Or.inl ⟨_, rfl, by decide, (Or.inl (zi_t2 (j := 25) rfl rfl))⟩)
theorem zF_34 : zi_gG 4 26 4 3 := (Or.inl ⟨_, rfl, by decide, (Or.inl (zi_t2 (j := 26) rfl rfl))⟩)
theorem zF_35 : zi_gG 4 29 0 3 := (Or.inl ⟨_, rfl, by decide, (Or.inr ⟨_, (zi_n1 (j := 109) rfl rfl)⟩)⟩)
theorem zF_36 : zi_gG 4 34 0 4 := (Or.inl ⟨_, rfl, by decide, (Or.inr ⟨_, (zi_n1 (j := 112) rfl rfl)⟩)⟩)
theorem zF_37 : zi_gG 4 37 0 8 := (Or.inl ⟨_, rfl, by decide, (Or.inr ⟨_, (zi_n1 (j := 121) rfl rfl)⟩)⟩)
theorem zF_38 : zi_gG 4 66 4 5 := (Or.inl ⟨_, rfl, by decide, (Or.inl (zi_t2 (j := 28) rfl rfl))⟩)
theorem zF_39 : zi_gG 5 7 5 0 := (Or.inl ⟨_, rfl, by decide, (Or.inl (zi_t1 (j := 60) rfl rfl))⟩)
theorem zF_40 : zi_gG 5 13 5 1 := (Or.inl ⟨_, rfl, by decide, (Or.inl (zi_t1 (j := 61) rfl rfl))⟩)
theorem zF_41 : zi_gG 6 11 6 0 := (Or.inl ⟨_, rfl, by decide, (Or.inl (zi_t2 (j := 73) rfl rfl))⟩)
theorem zF_42 : zi_gG 6 16 6 2 := (Or.inl ⟨_, rfl, by decide, (Or.inl (zi_t2 (j := 75) rfl rfl))⟩)
theorem zF_43 : zi_gG 6 20 6 1 := (Or.inl ⟨_, rfl, by decide, (Or.inl (zi_t2 (j := 74) rfl rfl))⟩)
theorem zF_44 : zi_gG 7 11 7 0 := (Or.inl ⟨_, rfl, by decide, (Or.inl (zi_t1 (j := 80) rfl rfl))⟩)
theorem zF_45 : zi_gG 7 15 7 1 := (Or.inl ⟨_, rfl, by decide, (Or.inl (zi_t1 (j := 81) rfl rfl))⟩)
theorem zF_46 : zi_gG 7 18 7 2 := (Or.inl ⟨_, rfl, by decide, (Or.inl (zi_t1 (j := 82) rfl rfl))⟩)
theorem zF_47 : zi_gG 7 21 7 3 := (Or.inl ⟨_, rfl, by decide, (Or.inl (zi_t1 (j := 83) rfl rfl))⟩)
theorem zF_48 : zi_gG 7 30 7 5 := (Or.inl ⟨_, rfl, by decide, (Or.inl (zi_t1 (j := 85) rfl rfl))⟩)
theorem zF_49 : zi_gG 7 52 7 4 := (Or.inl ⟨_, rfl, by decide, (Or.inl (zi_t1 (j := 84) rfl rfl))⟩)
theorem zF_50 : zi_gG 8 9 8 0 := (Or.inl ⟨_, rfl, by decide, (Or.inl (zi_t1 (j := 40) rfl rfl))⟩)
theorem zF_51 : zi_gG 8 13 8 1 := (Or.inl ⟨_, rfl, by decide, (Or.inl (zi_t1 (j := 41) rfl rfl))⟩)
theorem zF_52 : zi_gG 8 17 8 2 := (Or.inl ⟨_, rfl, by decide, (Or.inl (zi_t1 (j := 42) rfl rfl))⟩)
theorem zF_53 : zi_gG 8 26 8 3 := (Or.inl ⟨_, rfl, by decide, (Or.inl (zi_t1 (j := 43) rfl rfl))⟩)
theorem zF_54 : zi_gG 9 9 9 2 := (Or.inl ⟨_, rfl, by decide, (Or.inl (zi_t1 (j := 225) rfl rfl))⟩)
theorem zF_55 : zi_gG 9 15 9 3 := (Or.inl ⟨_, rfl, by decide, (Or.inl (zi_t1 (j := 226) rfl rfl))⟩)
theorem zF_56 : zi_gG 9 18 9 0 := (Or.inl ⟨_, rfl, by decide, (Or.inl (zi_t1 (j := 223) rfl rfl))⟩)
theorem zF_57 : zi_gG 9 22 9 1 := (Or.inl ⟨_, rfl, by decide, (Or.inl (zi_t1 (j := 224) rfl rfl))⟩)
theorem zF_58 : zi_gG 9 26 3 6 := (Or.inl ⟨_, rfl, by decide, (Or.inr ⟨_, (zi_n1 (j := 176) rfl rfl)⟩)⟩)
theorem zF_59 : zi_gG 9 57 3 1 := (Or.inl ⟨_, rfl, by decide, (Or.inr ⟨_, (zi_n1 (j := 160) rfl rfl)⟩)⟩)
theorem zF_60 : zi_gG 9 79 3 2 := (Or.inl ⟨_, rfl, by decide, (Or.inr ⟨_, (zi_n1 (j := 163) rfl rfl)⟩)⟩)
theorem zF_61 : zi_gG 9 82 1 2 := (Or.inl ⟨_, rfl, by decide, (Or.inr ⟨_, (zi_n1 (j := 208) rfl rfl)⟩)⟩)
theorem zF_62 : zi_gG 9 85 3 5 := (Or.inl ⟨_, rfl, by decide, (Or.inr ⟨_, (zi_n1 (j := 172) rfl rfl)⟩)⟩)
theorem zF_63 : zi_gG 9 94 0 0 := (Or.inl ⟨_, rfl, by decide, (Or.inr ⟨_, (zi_n1 (j := 101) rfl rfl)⟩)⟩)
theorem zF_64 : zi_gG 9 98 0 2 := (Or.inl ⟨_, rfl, by decide, (Or.inr ⟨_, (zi_n1 (j := 106) rfl rfl)⟩)⟩)
theorem zF_65 : zi_gG 9 109 0 6 := (Or.inl ⟨_, rfl, by decide, (Or.inr ⟨_, (zi_n1 (j := 117) rfl rfl)⟩)⟩)
theorem zF_66 : zi_gG 9 121 9 4 := (Or.inl ⟨_, rfl, by decide, (Or.inl (zi_t1 (j := 227) rfl rfl))⟩)
theorem zF_67 : zi_gG 9 130 0 9 := (Or.inl ⟨_, rfl, by decide, (Or.inr ⟨_, (zi_n1 (j := 124) rfl rfl)⟩)⟩)
theorem zF_68 : zi_gG 10 9 10 0 := (Or.inl ⟨_, rfl, by decide, (Or.inl (zi_t2 (j := 48) rfl rfl))⟩)
theorem zF_69 : zi_gG 10 13 10 1 := (Or.inl ⟨_, rfl, by decide, (Or.inl (zi_t2 (j := 49) rfl rfl))⟩)
theorem zF_70 : zi_gG 10 16 10 2 := (Or.inl ⟨_, rfl, by decide, (Or.inl (zi_t2 (j := 50) rfl rfl))⟩)
theorem zF_71 : zi_gG 10 25 10 3 := (Or.inl ⟨_, rfl, by decide, (Or.inl (zi_t2 (j := 51) rfl rfl))⟩)
theorem zF_72 : zi_gG 10 29 10 4 := (Or.inl ⟨_, rfl, by decide, (Or.inl (zi_t2 (j := 52) rfl rfl))⟩)
theorem zF_73 : zi_gG 11 10 11 0 := (Or.inl ⟨_, rfl, by decide, (Or.inl (zi_t2 (j := 83) rfl rfl))⟩)
theorem zF_74 : zi_gG 11 19 11 1 := (Or.inl ⟨_, rfl, by decide, (Or.inl (zi_t2 (j := 84) rfl rfl))⟩)
theorem zF_75 : zi_gG 11 26 11 2 := (Or.inl ⟨_, rfl, by decide, (Or.inl (zi_t2 (j := 85) rfl rfl))⟩)
theorem zF_76 : zi_gG 11 33 11 3 := (Or.inl ⟨_, rfl, by decide, (Or.inl (zi_t2 (j := 86) rfl rfl))⟩)
theorem zF_77 : zi_gG 11 37 11 4 := (Or.inl ⟨_, rfl, by decide, (Or.inl (zi_t2 (j := 87) rfl rfl))⟩)
theorem zF_78 : zi_gG 11 40 11 5 := (Or.inl ⟨_, rfl, by decide, (Or.inl (zi_t2 (j := 88) rfl rfl))⟩)
theorem zF_79 : zi_gG 11 48 11 6 := (Or.inl ⟨_, rfl, by decide, (Or.inl (zi_t2 (j := 89) rfl rfl))⟩)
theorem zF_80 : zi_gG 11 57 11 7 := (Or.inl ⟨_, rfl, by decide, (Or.inl (zi_t2 (j := 90) rfl rfl))⟩)
theorem zF_81 : zi_gG 11 64 11 8 := (Or.inl ⟨_, rfl, by decide, (Or.inl (zi_t2 (j := 91) rfl rfl))⟩)
theorem zF_82 : zi_gG 11 71 11 9 := (Or.inl ⟨_, rfl, by decide, (Or.inl (zi_t2 (j := 92) rfl rfl))⟩)
theorem zF_83 : zi_gG 11 78 11 10 := (Or.inl ⟨_, rfl, by decide, (Or.inl (zi_t2 (j := 93) rfl rfl))⟩)
theorem zF_84 : zi_gG 11 85 11 11 := (Or.inl ⟨_, rfl, by decide, (Or.inl (zi_t2 (j := 94) rfl rfl))⟩)
theorem zF_85 : zi_gG 11 89 11 12 := (Or.inl ⟨_, rfl, by decide, (Or.inl (zi_t2 (j := 95) rfl rfl))⟩)
theorem zF_86 : zi_gG 11 93 11 13 := (Or.inl ⟨_, rfl, by decide, (Or.inl (zi_t2 (j := 96) rfl rfl))⟩)
theorem zF_87 : zi_gG 11 112 0 0 := (Or.inl ⟨_, rfl, by decide, (Or.inr ⟨_, (zi_n1 (j := 100) rfl rfl)⟩)⟩)
theorem zF_88 : zi_gG 11 131 0 1 := (Or.inl ⟨_, rfl, by decide, (Or.inr ⟨_, (zi_n1 (j := 104) rfl rfl)⟩)⟩)
theorem zF_89 : zi_gG 11 134 0 2 := (Or.inl ⟨_, rfl, by decide, (Or.inr ⟨_, (zi_n1 (j := 107) rfl rfl)⟩)⟩)
theorem zF_90 : zi_gG 11 144 0 3 := (Or.inl ⟨_, rfl, by decide, (Or.inr ⟨_, (zi_n1 (j := 110) rfl rfl)⟩)⟩)
theorem zF_91 : zi_gG 11 147 0 4 := (Or.inl ⟨_, rfl, by decide, (Or.inr ⟨_, (zi_n1 (j := 113) rfl rfl)⟩)⟩)
theorem zF_92 : zi_gG 11 150 0 5 := (Or.inl ⟨_, rfl, by decide, (Or.inr ⟨_, (zi_n1 (j := 115) rfl rfl)⟩)⟩)
theorem zF_93 : zi_gG 11 153 3 5 := (Or.inl ⟨_, rfl, by decide, (Or.inr ⟨_, (zi_n1 (j := 173) rfl rfl)⟩)⟩)
theorem zF_94 : zi_gG 11 159 3 4 := (Or.inl ⟨_, rfl, by decide, (Or.inr ⟨_, (zi_n1 (j := 169) rfl rfl)⟩)⟩)
theorem zF_95 : zi_gG 11 165 3 6 := (Or.inl ⟨_, rfl, by decide, (Or.inr ⟨_, (zi_n1 (j := 177) rfl rfl)⟩)⟩)
theorem zF_96 : zi_gG 11 168 0 6 := (Or.inl ⟨_, rfl, by decide, (Or.inr ⟨_, (zi_n1 (j := 118) rfl rfl)⟩)⟩)
theorem zF_97 : zi_gG 11 171 3 7 := (Or.inl ⟨_, rfl, by decide, (Or.inr ⟨_, (zi_n1 (j := 180) rfl rfl)⟩)⟩)
theorem zF_98 : zi_gG 11 178 3 1 := (Or.inl ⟨_, rfl, by decide, (Or.inr ⟨_, (zi_n1 (j := 161) rfl rfl)⟩)⟩)
theorem zF_99 : zi_gG 11 183 0 10 := (Or.inl ⟨_, rfl, by decide, (Or.inr ⟨_, (zi_n1 (j := 126) rfl rfl)⟩)⟩)
theorem zF_100 : zi_gG 11 206 11 14 := (Or.inl ⟨_, rfl, by decide, (Or.inl (zi_t2 (j := 97) rfl rfl))⟩)
theorem zF_101 : zi_gG 11 271 3 3 := (Or.inl ⟨_, rfl, by decide, (Or.inr ⟨_, (zi_n1 (j := 167) rfl rfl)⟩)⟩)
theorem zF_102 : zi_gG 11 277 3 2 := (Or.inl ⟨_, rfl, by decide, (Or.inr ⟨_, (zi_n1 (j := 164) rfl rfl)⟩)⟩)
theorem zF_103 : zi_gG 11 333 1 2 := (Or.inl ⟨_, rfl, by decide, (Or.inr ⟨_, (zi_n1 (j := 209) rfl rfl)⟩)⟩)
theorem zF_104 : zi_gG 11 345 9 4 := (Or.inl ⟨_, rfl, by decide, (Or.inr ⟨_, (zi_n1 (j := 228) rfl rfl)⟩)⟩)
theorem zF_105 : zi_gG 11 406 0 8 := (Or.inl ⟨_, rfl, by decide, (Or.inr ⟨_, (zi_n1 (j := 122) rfl rfl)⟩)⟩)
theorem zF_106 : zi_gG 11 418 0 9 := (Or.inl ⟨_, rfl, by decide, (Or.inr ⟨_, (zi_n1 (j := 125) rfl rfl)⟩)⟩)
theorem zF_107 : zi_gG 11 425 3 0 := (Or.inl ⟨_, rfl, by decide, (Or.inr ⟨_, (zi_n1 (j := 158) rfl rfl)⟩)⟩)
theorem zF_108 : zi_gG 12 9 12 2 := (Or.inl ⟨_, rfl, by decide, (Or.inl (zi_t6 (j := 21) rfl rfl))⟩)
theorem zF_109 : zi_gG 12 13 12 8 := (Or.inl ⟨_, rfl, by decide, (Or.inl (zi_t6 (j := 27) rfl rfl))⟩)
theorem zF_110 : zi_gG 12 17 12 9 := (Or.inl ⟨_, rfl, by decide, (Or.inl (zi_t6 (j := 28) rfl rfl))⟩)
theorem zF_111 : zi_gG 12 20 12 10 := (Or.inl ⟨_, rfl, by decide, (Or.inl (zi_t6 (j := 29) rfl rfl))⟩)
theorem zF_112 : zi_gG 12 23 12 11 := (Or.inl ⟨_, rfl, by decide, (Or.inl (zi_t6 (j := 30) rfl rfl))⟩)
theorem zF_113 : zi_gG 12 26 12 12 := (Or.inl ⟨_, rfl, by decide, (Or.inl (zi_t6 (j := 31) rfl rfl))⟩)
theorem zF_114 : zi_gG 12 29 12 13 := (Or.inl ⟨_, rfl, by decide, (Or.inl (zi_t6 (j := 32) rfl rfl))⟩)
theorem zF_115 : zi_gG 12 32 12 14 := (Or.inl ⟨_, rfl, by decide, (Or.inl (zi_t6 (j := 33) rfl rfl))⟩)
theorem zF_116 : zi_gG 12 35 12 15 := (Or.inl ⟨_, rfl, by decide, (Or.inl (zi_t6 (j := 34) rfl rfl))⟩)
theorem zF_117 : zi_gG 12 38 12 16 := (Or.inl ⟨_, rfl, by decide, (Or.inl (zi_t6 (j := 35) rfl rfl))⟩)
theorem zF_118 : zi_gG 12 41 12 21 := (Or.inl ⟨_, rfl, by decide, (Or.inl (zi_t6 (j := 40) rfl rfl))⟩)
theorem zF_119 : zi_gG 12 44 12 23 := (Or.inl ⟨_, rfl, by decide, (Or.inl (zi_t6 (j := 42) rfl rfl))⟩)
theorem zF_120 : zi_gG 12 47 12 24 := (Or.inl ⟨_, rfl, by decide, (Or.inl (zi_t6 (j := 43) rfl rfl))⟩)
theorem zF_121 : zi_gG 12 50 12 27 := (Or.inl ⟨_, rfl, by decide, (Or.inl (zi_t6 (j := 46) rfl rfl))⟩)
theorem zF_122 : zi_gG 12 53 12 28 := (Or.inl ⟨_, rfl, by decide, (Or.inl (zi_t6 (j := 47) rfl rfl))⟩)
theorem zF_123 : zi_gG 12 56 12 29 := (Or.inl ⟨_, rfl, by decide, (Or.inl (zi_t6 (j := 48) rfl rfl))⟩)
theorem zF_124 : zi_gG 12 59 12 30 := (Or.inl ⟨_, rfl, by decide, (Or.inl (zi_t6 (j := 49) rfl rfl))⟩)
theorem zF_125 : zi_gG 12 62 12 32 := (Or.inl ⟨_, rfl, by decide, (Or.inl (zi_t6 (j := 51) rfl rfl))⟩)
theorem zF_126 : zi_gG 12 65 12 33 := (Or.inl ⟨_, rfl, by decide, (Or.inl (zi_t6 (j := 52) rfl rfl))⟩)
theorem zF_127 : zi_gG 12 68 12 34 := (Or.inl ⟨_, rfl, by decide, (Or.inl (zi_t6 (j := 53) rfl rfl))⟩)
theorem zF_128 : zi_gG 12 71 12 35 := (Or.inl ⟨_, rfl, by decide, (Or.inl (zi_t6 (j := 54) rfl rfl))⟩)
theorem zF_129 : zi_gG 12 74 12 40 := (Or.inl ⟨_, rfl, by decide, (Or.inl (zi_t6 (j := 59) rfl rfl))⟩)
theorem zF_130 : zi_gG 12 77 12 41 := (Or.inl ⟨_, rfl, by decide, (Or.inl (zi_t6 (j := 60) rfl rfl))⟩)
theorem zF_131 : zi_gG 12 80 12 44 := (Or.inl ⟨_, rfl, by decide, (Or.inl (zi_t6 (j := 63) rfl rfl))⟩)
theorem zF_132 : zi_gG 12 83 12 46 := (Or.inl ⟨_, rfl, by decide, (Or.inl (zi_t6 (j := 65) rfl rfl))⟩)
theorem zF_133 : zi_gG 12 86 12 47 := (Or.inl ⟨_, rfl, by decide, (Or.inl (zi_t6 (j := 66) rfl rfl))⟩)
theorem zF_134 : zi_gG 12 89 12 50 := (Or.inl ⟨_, rfl, by decide, (Or.inl (zi_t6 (j := 69) rfl rfl))⟩)
theorem zF_135 : zi_gG 12 93 12 51 := (Or.inl ⟨_, rfl, by decide, (Or.inl (zi_t6 (j := 70) rfl rfl))⟩)
theorem zF_136 : zi_gG 12 96 12 52 := (Or.inl ⟨_, rfl, by decide, (Or.inl (zi_t6 (j := 71) rfl rfl))⟩)
theorem zF_137 : zi_gG 12 99 12 0 := (Or.inl ⟨_, rfl, by decide, (Or.inl (zi_t6 (j := 19) rfl rfl))⟩)
theorem zF_138 : zi_gG 12 107 12 1 := (Or.inl ⟨_, rfl, by decide, (Or.inl (zi_t6 (j := 20) rfl rfl))⟩)
theorem zF_139 : zi_gG 12 110 12 3 := (Or.inl ⟨_, rfl, by decide, (Or.inl (zi_t6 (j := 22) rfl rfl))⟩)
theorem zF_140 : zi_gG 12 117 12 4 := (Or.inl ⟨_, rfl, by decide, (Or.inl (zi_t6 (j := 23) rfl rfl))⟩)
theorem zF_141 : zi_gG 12 120 12 5 := (Or.inl ⟨_, rfl, by decide, (Or.inl (zi_t6 (j := 24) rfl rfl))⟩)
theorem zF_142 : zi_gG 12 130 12 17 := (Or.inl ⟨_, rfl, by decide, (Or.inl (zi_t6 (j := 36) rfl rfl))⟩)
theorem zF_143 : zi_gG 12 133 12 18 := (Or.inl ⟨_, rfl, by decide, (Or.inl (zi_t6 (j := 37) rfl rfl))⟩)
theorem zF_144 : zi_gG 12 136 12 20 := (Or.inl ⟨_, rfl, by decide, (Or.inl (zi_t6 (j := 39) rfl rfl))⟩)
theorem zF_145 : zi_gG 12 145 12 19 := (Or.inl ⟨_, rfl, by decide, (Or.inl (zi_t6 (j := 38) rfl rfl))⟩)
theorem zF_146 : zi_gG 12 174 12 22 := (Or.inl ⟨_, rfl, by decide, (Or.inl (zi_t6 (j := 41) rfl rfl))⟩)
theorem zF_147 : zi_gG 12 205 12 31 := (Or.inl ⟨_, rfl, by decide, (Or.inl (zi_t6 (j := 50) rfl rfl))⟩)
theorem zF_148 : zi_gG 12 208 12 7 := (Or.inl ⟨_, rfl, by decide, (Or.inl (zi_t6 (j := 26) rfl rfl))⟩)
theorem zF_149 : zi_gG 12 217 12 26 := (Or.inl ⟨_, rfl, by decide, (Or.inl (zi_t6 (j := 45) rfl rfl))⟩)
theorem zF_150 : zi_gG 12 241 12 25 := (Or.inl ⟨_, rfl, by decide, (Or.inl (zi_t6 (j := 44) rfl rfl))⟩)
theorem zF_151 : zi_gG 12 271 12 6 := (Or.inl ⟨_, rfl, by decide, (Or.inl (zi_t6 (j := 25) rfl rfl))⟩)
theorem zF_152 : zi_gG 12 354 12 36 := (Or.inl ⟨_, rfl, by decide, (Or.inl (zi_t6 (j := 55) rfl rfl))⟩)
theorem zF_153 : zi_gG 12 359 12 37 := (Or.inl ⟨_, rfl, by decide, (Or.inl (zi_t6 (j := 56) rfl rfl))⟩)
theorem zF_154 : zi_gG 12 389 12 38 := (Or.inl ⟨_, rfl, by decide, (Or.inl (zi_t6 (j := 57) rfl rfl))⟩)
theorem zF_155 : zi_gG 12 392 12 39 := (Or.inl ⟨_, rfl, by decide, (Or.inl (zi_t6 (j := 58) rfl rfl))⟩)
theorem zF_156 : zi_gG 12 407 12 42 := (Or.inl ⟨_, rfl, by decide, (Or.inl (zi_t6 (j := 61) rfl rfl))⟩)
theorem zF_157 : zi_gG 12 410 12 43 := (Or.inl ⟨_, rfl, by decide, (Or.inl (zi_t6 (j := 62) rfl rfl))⟩)
theorem zF_158 : zi_gG 12 432 12 45 := (Or.inl ⟨_, rfl, by decide, (Or.inl (zi_t6 (j := 64) rfl rfl))⟩)
theorem zF_159 : zi_gG 12 447 12 49 := (Or.inl ⟨_, rfl, by decide, (Or.inl (zi_t6 (j := 68) rfl rfl))⟩)
theorem zF_160 : zi_gG 12 453 12 48 := (Or.inl ⟨_, rfl, by decide, (Or.inl (zi_t6 (j := 67) rfl rfl))⟩)
theorem zF_161 : zi_gG 15 9 15 0 := (Or.inr ⟨rfl, Or.inl ⟨rfl, (zi_t8 (j := 211) rfl rfl)⟩⟩)
theorem zF_162 : zi_gG 15 15 15 1 := (Or.inr ⟨rfl, Or.inr ⟨rfl, (zi_t8 (j := 210) rfl rfl)⟩⟩)
set_option maxRecDepth 100000 in
theorem zi_FT_ok : ∀ q ∈ zi_FT, zi_gG q.1 q.2.1 q.2.2.1 q.2.2.2 := List.forall_mem_cons.mpr ⟨zF_0, List.forall_mem_cons.mpr ⟨zF_1, List.forall_mem_cons.mpr ⟨zF_2, List.forall_mem_cons.mpr ⟨zF_3, List.forall_mem_cons.mpr ⟨zF_4, List.forall_mem_cons.mpr ⟨zF_5, List.forall_mem_cons.mpr ⟨zF_6, List.forall_mem_cons.mpr ⟨zF_7, List.forall_mem_cons.mpr ⟨zF_8, List.forall_mem_cons.mpr ⟨zF_9, List.forall_mem_cons.mpr ⟨zF_10, List.forall_mem_cons.mpr ⟨zF_11, List.forall_mem_cons.mpr ⟨zF_12, List.forall_mem_cons.mpr ⟨zF_13, List.forall_mem_cons.mpr ⟨zF_14, List.forall_mem_cons.mpr ⟨zF_15, List.forall_mem_cons.mpr ⟨zF_16, List.forall_mem_cons.mpr ⟨zF_17, List.forall_mem_cons.mpr ⟨zF_18, List.forall_mem_cons.mpr ⟨zF_19, List.forall_mem_cons.mpr ⟨zF_20, List.forall_mem_cons.mpr ⟨zF_21, List.forall_mem_cons.mpr ⟨zF_22, List.forall_mem_cons.mpr ⟨zF_23, List.forall_mem_cons.mpr ⟨zF_24, List.forall_mem_cons.mpr ⟨zF_25, List.forall_mem_cons.mpr ⟨zF_26, List.forall_mem_cons.mpr ⟨zF_27, List.forall_mem_cons.mpr ⟨zF_28, List.forall_mem_cons.mpr ⟨zF_29, List.forall_mem_cons.mpr ⟨zF_30, List.forall_mem_cons.mpr ⟨zF_31, List.forall_mem_cons.mpr ⟨zF_32, List.forall_mem_cons.mpr ⟨zF_33, List.forall_mem_cons.mpr ⟨zF_34, List.forall_mem_cons.mpr ⟨zF_35, List.forall_mem_cons.mpr ⟨zF_36, List.forall_mem_cons.mpr ⟨zF_37, List.forall_mem_cons.mpr ⟨zF_38, List.forall_mem_cons.mpr ⟨zF_39, List.forall_mem_cons.mpr ⟨zF_40, List.forall_mem_cons.mpr ⟨zF_41, List.forall_mem_cons.mpr ⟨zF_42, List.forall_mem_cons.mpr ⟨zF_43, List.forall_mem_cons.mpr ⟨zF_44, List.forall_mem_cons.mpr ⟨zF_45, List.forall_mem_cons.mpr ⟨zF_46, List.forall_mem_cons.mpr ⟨zF_47, List.forall_mem_cons.mpr ⟨zF_48, List.forall_mem_cons.mpr ⟨zF_49, List.forall_mem_cons.mpr ⟨zF_50, List.forall_mem_cons.mpr ⟨zF_51, List.forall_mem_cons.mpr ⟨zF_52, List.forall_mem_cons.mpr ⟨zF_53, List.forall_mem_cons.mpr ⟨zF_54, List.forall_mem_cons.mpr ⟨zF_55, List.forall_mem_cons.mpr ⟨zF_56, List.forall_mem_cons.mpr ⟨zF_57, List.forall_mem_cons.mpr ⟨zF_58, List.forall_mem_cons.mpr ⟨zF_59, List.forall_mem_cons.mpr ⟨zF_60, List.forall_mem_cons.mpr ⟨zF_61, List.forall_mem_cons.mpr ⟨zF_62, List.forall_mem_cons.mpr ⟨zF_63, List.forall_mem_cons.mpr ⟨zF_64, List.forall_mem_cons.mpr ⟨zF_65, List.forall_mem_cons.mpr ⟨zF_66, List.forall_mem_cons.mpr ⟨zF_67, List.forall_mem_cons.mpr ⟨zF_68, List.forall_mem_cons.mpr ⟨zF_69, List.forall_mem_cons.mpr ⟨zF_70, List.forall_mem_cons.mpr ⟨zF_71, List.forall_mem_cons.mpr ⟨zF_72, List.forall_mem_cons.mpr ⟨zF_73, List.forall_mem_cons.mpr ⟨zF_74, List.forall_mem_cons.mpr ⟨zF_75, List.forall_mem_cons.mpr ⟨zF_76, List.forall_mem_cons.mpr ⟨zF_77, List.forall_mem_cons.mpr ⟨zF_78, List.forall_mem_cons.mpr ⟨zF_79, List.forall_mem_cons.mpr ⟨zF_80, List.forall_mem_cons.mpr ⟨zF_81, List.forall_mem_cons.mpr ⟨zF_82, List.forall_mem_cons.mpr ⟨zF_83, List.forall_mem_cons.mpr ⟨zF_84, List.forall_mem_cons.mpr ⟨zF_85, List.forall_mem_cons.mpr ⟨zF_86, List.forall_mem_cons.mpr ⟨zF_87, List.forall_mem_cons.mpr ⟨zF_88, List.forall_mem_cons.mpr ⟨zF_89, List.forall_mem_cons.mpr ⟨zF_90, List.forall_mem_cons.mpr ⟨zF_91, List.forall_mem_cons.mpr ⟨zF_92, List.forall_mem_cons.mpr ⟨zF_93, List.forall_mem_cons.mpr ⟨zF_94, List.forall_mem_cons.mpr ⟨zF_95, List.forall_mem_cons.mpr ⟨zF_96, List.forall_mem_cons.mpr ⟨zF_97, List.forall_mem_cons.mpr ⟨zF_98, List.forall_mem_cons.mpr ⟨zF_99, List.forall_mem_cons.mpr ⟨zF_100, List.forall_mem_cons.mpr ⟨zF_101, List.forall_mem_cons.mpr ⟨zF_102, List.forall_mem_cons.mpr ⟨zF_103, List.forall_mem_cons.mpr ⟨zF_104, List.forall_mem_cons.mpr ⟨zF_105, List.forall_mem_cons.mpr ⟨zF_106, List.forall_mem_cons.mpr ⟨zF_107, List.forall_mem_cons.mpr ⟨zF_108, List.forall_mem_cons.mpr ⟨zF_109, List.forall_mem_cons.mpr ⟨zF_110, List.forall_mem_cons.mpr ⟨zF_111, List.forall_mem_cons.mpr ⟨zF_112, List.forall_mem_cons.mpr ⟨zF_113, List.forall_mem_cons.mpr ⟨zF_114, List.forall_mem_cons.mpr ⟨zF_115, List.forall_mem_cons.mpr ⟨zF_116, List.forall_mem_cons.mpr ⟨zF_117, List.forall_mem_cons.mpr ⟨zF_118, List.forall_mem_cons.mpr ⟨zF_119, List.forall_mem_cons.mpr ⟨zF_120, List.forall_mem_cons.mpr ⟨zF_121, List.forall_mem_cons.mpr ⟨zF_122, List.forall_mem_cons.mpr ⟨zF_123, List.forall_mem_cons.mpr ⟨zF_124, List.forall_mem_cons.mpr ⟨zF_125, List.forall_mem_cons.mpr ⟨zF_126, List.forall_mem_cons.mpr ⟨zF_127, List.forall_mem_cons.mpr ⟨zF_128, List.forall_mem_cons.mpr ⟨zF_129, List.forall_mem_cons.mpr ⟨zF_130, List.forall_mem_cons.mpr ⟨zF_131, List.forall_mem_cons.mpr ⟨zF_132, List.forall_mem_cons.mpr ⟨zF_133, List.forall_mem_cons.mpr ⟨zF_134, List.forall_mem_cons.mpr ⟨zF_135, List.forall_mem_cons.mpr ⟨zF_136, List.forall_mem_cons.mpr ⟨zF_137, List.forall_mem_cons.mpr ⟨zF_138, List.forall_mem_cons.mpr ⟨zF_139, List.forall_mem_cons.mpr ⟨zF_140, List.forall_mem_cons.mpr ⟨zF_141, List.forall_mem_cons.mpr ⟨zF_142, List.forall_mem_cons.mpr ⟨zF_143, List.forall_mem_cons.mpr ⟨zF_144, List.forall_mem_cons.mpr ⟨zF_145, List.forall_mem_cons.mpr ⟨zF_146, List.forall_mem_cons.mpr ⟨zF_147, List.forall_mem_cons.mpr ⟨zF_148, List.forall_mem_cons.mpr ⟨zF_149, List.forall_mem_cons.mpr ⟨zF_150, List.forall_mem_cons.mpr ⟨zF_151, List.forall_mem_cons.mpr ⟨zF_152, List.forall_mem_cons.mpr ⟨zF_153, List.forall_mem_cons.mpr ⟨zF_154, List.forall_mem_cons.mpr ⟨zF_155, List.forall_mem_cons.mpr ⟨zF_156, List.forall_mem_cons.mpr ⟨zF_157, List.forall_mem_cons.mpr ⟨zF_158, List.forall_mem_cons.mpr ⟨zF_159, List.forall_mem_cons.mpr ⟨zF_160, List.forall_mem_cons.mpr ⟨zF_161, List.forall_mem_cons.mpr ⟨zF_162, fun _ h => absurd h List.not_mem_nil⟩⟩⟩⟩⟩⟩⟩⟩⟩⟩⟩⟩⟩⟩⟩⟩⟩⟩⟩⟩⟩⟩⟩⟩⟩⟩⟩⟩⟩⟩⟩⟩⟩⟩⟩⟩⟩⟩⟩⟩⟩⟩⟩⟩⟩⟩⟩⟩⟩⟩⟩⟩⟩⟩⟩⟩⟩⟩⟩⟩⟩⟩⟩⟩⟩⟩⟩⟩⟩⟩⟩⟩⟩⟩⟩⟩⟩⟩⟩⟩⟩⟩⟩⟩⟩⟩⟩⟩⟩⟩⟩⟩⟩⟩⟩⟩⟩⟩⟩⟩⟩⟩⟩⟩⟩⟩⟩⟩⟩⟩⟩⟩⟩⟩⟩⟩⟩⟩⟩⟩⟩⟩⟩⟩⟩⟩⟩⟩⟩⟩⟩⟩⟩⟩⟩⟩⟩⟩⟩⟩⟩⟩⟩⟩⟩⟩⟩⟩⟩⟩⟩⟩⟩⟩⟩⟩⟩⟩⟩⟩⟩⟩⟩
theorem zG_0 : Cond.fieldLink (zi_cn 15) 38 "java/lang/String" "COMPACT_STRINGS" "Z" ∈ zi_tb := (zi_t3 (j := 53) rfl rfl)
set_option maxRecDepth 100000 in
theorem zi_GT_ok : ∀ q ∈ zi_GT, Cond.fieldLink (zi_cn q.1) q.2 "java/lang/String" "COMPACT_STRINGS" "Z" ∈ zi_tb := List.forall_mem_cons.mpr ⟨zG_0, fun _ h => absurd h List.not_mem_nil⟩
theorem zPN_0 : ∀ nm, zi_gP nm 0 37 0 7 := fun _ => ⟨_, rfl, by decide, Or.inr ⟨rfl, (Or.inl (zi_t1 (j := 119) rfl rfl))⟩⟩
theorem zPN_1 : ∀ nm, zi_gP nm 0 41 0 8 := fun _ => ⟨_, rfl, by decide, Or.inr ⟨rfl, (Or.inl (zi_t1 (j := 120) rfl rfl))⟩⟩
theorem zPN_2 : ∀ nm, zi_gP nm 0 44 0 9 := fun _ => ⟨_, rfl, by decide, Or.inr ⟨rfl, (Or.inl (zi_t1 (j := 123) rfl rfl))⟩⟩
theorem zPN_3 : ∀ nm, zi_gP nm 3 9 3 1 := fun _ => ⟨_, rfl, by decide, Or.inr ⟨rfl, (Or.inl (zi_t1 (j := 159) rfl rfl))⟩⟩
theorem zPN_4 : ∀ nm, zi_gP nm 3 31 3 0 := fun _ => ⟨_, rfl, by decide, Or.inr ⟨rfl, (Or.inl (zi_t1 (j := 157) rfl rfl))⟩⟩
theorem zPN_5 : ∀ nm, zi_gP nm 3 34 3 2 := fun _ => ⟨_, rfl, by decide, Or.inr ⟨rfl, (Or.inl (zi_t1 (j := 162) rfl rfl))⟩⟩
theorem zPN_6 : ∀ nm, zi_gP nm 4 19 4 4 := fun _ => ⟨_, rfl, by decide, Or.inr ⟨rfl, (Or.inl (zi_t2 (j := 27) rfl rfl))⟩⟩
theorem zPN_7 : ∀ nm, zi_gP nm 4 23 4 2 := fun _ => ⟨_, rfl, by decide, Or.inr ⟨rfl, (Or.inl (zi_t2 (j := 25) rfl rfl))⟩⟩
theorem zPN_8 : ∀ nm, zi_gP nm 4 26 4 3 := fun _ => ⟨_, rfl, by decide, Or.inr ⟨rfl, (Or.inl (zi_t2 (j := 26) rfl rfl))⟩⟩
theorem zPN_9 : ∀ nm, zi_gP nm 4 66 4 5 := fun _ => ⟨_, rfl, by decide, Or.inr ⟨rfl, (Or.inl (zi_t2 (j := 28) rfl rfl))⟩⟩
theorem zPN_10 : ∀ nm, zi_gP nm 5 13 5 1 := fun _ => ⟨_, rfl, by decide, Or.inr ⟨rfl, (Or.inl (zi_t1 (j := 61) rfl rfl))⟩⟩
theorem zPN_11 : ∀ nm, zi_gP nm 6 16 6 2 := fun _ => ⟨_, rfl, by decide, Or.inr ⟨rfl, (Or.inl (zi_t2 (j := 75) rfl rfl))⟩⟩
theorem zPN_12 : ∀ nm, zi_gP nm 6 20 6 1 := fun _ => ⟨_, rfl, by decide, Or.inr ⟨rfl, (Or.inl (zi_t2 (j := 74) rfl rfl))⟩⟩
theorem zPN_13 : ∀ nm, zi_gP nm 7 30 7 5 := fun _ => ⟨_, rfl, by decide, Or.inr ⟨rfl, (Or.inl (zi_t1 (j := 85) rfl rfl))⟩⟩
theorem zPN_14 : ∀ nm, zi_gP nm 7 52 7 4 := fun _ => ⟨_, rfl, by decide, Or.inr ⟨rfl, (Or.inl (zi_t1 (j := 84) rfl rfl))⟩⟩
theorem zPN_15 : ∀ nm, zi_gP nm 8 13 8 1 := fun _ => ⟨_, rfl, by decide, Or.inr ⟨rfl, (Or.inl (zi_t1 (j := 41) rfl rfl))⟩⟩
theorem zPN_16 : ∀ nm, zi_gP nm 8 17 8 2 := fun _ => ⟨_, rfl, by decide, Or.inr ⟨rfl, (Or.inl (zi_t1 (j := 42) rfl rfl))⟩⟩
theorem zPN_17 : ∀ nm, zi_gP nm 8 26 8 3 := fun _ => ⟨_, rfl, by decide, Or.inr ⟨rfl, (Or.inl (zi_t1 (j := 43) rfl rfl))⟩⟩
theorem zPN_18 : ∀ nm, zi_gP nm 9 57 3 1 := fun _ => ⟨_, rfl, by decide, Or.inr ⟨rfl, (Or.inr ⟨_, (zi_n1 (j := 160) rfl rfl)⟩)⟩⟩
theorem zPN_19 : ∀ nm, zi_gP nm 9 79 3 2 := fun _ => ⟨_, rfl, by decide, Or.inr ⟨rfl, (Or.inr ⟨_, (zi_n1 (j := 163) rfl rfl)⟩)⟩⟩
theorem zPN_20 : ∀ nm, zi_gP nm 9 121 9 4 := fun _ => ⟨_, rfl, by decide, Or.inr ⟨rfl, (Or.inl (zi_t1 (j := 227) rfl rfl))⟩⟩
theorem zPN_21 : ∀ nm, zi_gP nm 10 25 10 3 := fun _ => ⟨_, rfl, by decide, Or.inr ⟨rfl, (Or.inl (zi_t2 (j := 51) rfl rfl))⟩⟩
theorem zPN_22 : ∀ nm, zi_gP nm 10 29 10 4 := fun _ => ⟨_, rfl, by decide, Or.inr ⟨rfl, (Or.inl (zi_t2 (j := 52) rfl rfl))⟩⟩
theorem zPN_23 : ∀ nm, zi_gP nm 11 178 3 1 := fun _ => ⟨_, rfl, by decide, Or.inr ⟨rfl, (Or.inr ⟨_, (zi_n1 (j := 161) rfl rfl)⟩)⟩⟩
theorem zPN_24 : ∀ nm, zi_gP nm 11 183 0 10 := fun _ => ⟨_, rfl, by decide, Or.inr ⟨rfl, (Or.inr ⟨_, (zi_n1 (j := 126) rfl rfl)⟩)⟩⟩
theorem zPN_25 : ∀ nm, zi_gP nm 11 206 11 14 := fun _ => ⟨_, rfl, by decide, Or.inr ⟨rfl, (Or.inl (zi_t2 (j := 97) rfl rfl))⟩⟩
theorem zPN_26 : ∀ nm, zi_gP nm 12 99 12 0 := fun _ => ⟨_, rfl, by decide, Or.inr ⟨rfl, (Or.inl (zi_t6 (j := 19) rfl rfl))⟩⟩
theorem zPN_27 : ∀ nm, zi_gP nm 12 107 12 1 := fun _ => ⟨_, rfl, by decide, Or.inr ⟨rfl, (Or.inl (zi_t6 (j := 20) rfl rfl))⟩⟩
theorem zPN_28 : ∀ nm, zi_gP nm 12 110 12 3 := fun _ => ⟨_, rfl, by decide, Or.inr ⟨rfl, (Or.inl (zi_t6 (j := 22) rfl rfl))⟩⟩
theorem zPN_29 : ∀ nm, zi_gP nm 12 117 12 4 := fun _ => ⟨_, rfl, by decide, Or.inr ⟨rfl, (Or.inl (zi_t6 (j := 23) rfl rfl))⟩⟩
theorem zPN_30 : ∀ nm, zi_gP nm 12 120 12 5 := fun _ => ⟨_, rfl, by decide, Or.inr ⟨rfl, (Or.inl (zi_t6 (j := 24) rfl rfl))⟩⟩
theorem zPN_31 : ∀ nm, zi_gP nm 12 130 12 17 := fun _ => ⟨_, rfl, by decide, Or.inr ⟨rfl, (Or.inl (zi_t6 (j := 36) rfl rfl))⟩⟩
theorem zPN_32 : ∀ nm, zi_gP nm 12 133 12 18 := fun _ => ⟨_, rfl, by decide, Or.inr ⟨rfl, (Or.inl (zi_t6 (j := 37) rfl rfl))⟩⟩
theorem zPN_33 : ∀ nm, zi_gP nm 12 136 12 20 := fun _ => ⟨_, rfl, by decide, Or.inr ⟨rfl, (Or.inl (zi_t6 (j := 39) rfl rfl))⟩⟩
theorem zPN_34 : ∀ nm, zi_gP nm 12 145 12 19 := fun _ => ⟨_, rfl, by decide, Or.inr ⟨rfl, (Or.inl (zi_t6 (j := 38) rfl rfl))⟩⟩
theorem zPN_35 : ∀ nm, zi_gP nm 12 174 12 22 := fun _ => ⟨_, rfl, by decide, Or.inr ⟨rfl, (Or.inl (zi_t6 (j := 41) rfl rfl))⟩⟩
theorem zPN_36 : ∀ nm, zi_gP nm 12 205 12 31 := fun _ => ⟨_, rfl, by decide, Or.inr ⟨rfl, (Or.inl (zi_t6 (j := 50) rfl rfl))⟩⟩
theorem zPN_37 : ∀ nm, zi_gP nm 12 208 12 7 := fun _ => ⟨_, rfl, by decide, Or.inr ⟨rfl, (Or.inl (zi_t6 (j := 26) rfl rfl))⟩⟩
theorem zPN_38 : ∀ nm, zi_gP nm 12 217 12 26 := fun _ => ⟨_, rfl, by decide, Or.inr ⟨rfl, (Or.inl (zi_t6 (j := 45) rfl rfl))⟩⟩
theorem zPN_39 : ∀ nm, zi_gP nm 12 241 12 25 := fun _ => ⟨_, rfl, by decide, Or.inr ⟨rfl, (Or.inl (zi_t6 (j := 44) rfl rfl))⟩⟩
theorem zPN_40 : ∀ nm, zi_gP nm 12 271 12 6 := fun _ => ⟨_, rfl, by decide, Or.inr ⟨rfl, (Or.inl (zi_t6 (j := 25) rfl rfl))⟩⟩
theorem zPN_41 : ∀ nm, zi_gP nm 12 354 12 36 := fun _ => ⟨_, rfl, by decide, Or.inr ⟨rfl, (Or.inl (zi_t6 (j := 55) rfl rfl))⟩⟩
theorem zPN_42 : ∀ nm, zi_gP nm 12 359 12 37 := fun _ => ⟨_, rfl, by decide, Or.inr ⟨rfl, (Or.inl (zi_t6 (j := 56) rfl rfl))⟩⟩
theorem zPN_43 : ∀ nm, zi_gP nm 12 389 12 38 := fun _ => ⟨_, rfl, by decide, Or.inr ⟨rfl, (Or.inl (zi_t6 (j := 57) rfl rfl))⟩⟩
theorem zPN_44 : ∀ nm, zi_gP nm 12 392 12 39 := fun _ => ⟨_, rfl, by decide, Or.inr ⟨rfl, (Or.inl (zi_t6 (j := 58) rfl rfl))⟩⟩
theorem zPN_45 : ∀ nm, zi_gP nm 12 407 12 42 := fun _ => ⟨_, rfl, by decide, Or.inr ⟨rfl, (Or.inl (zi_t6 (j := 61) rfl rfl))⟩⟩
theorem zPN_46 : ∀ nm, zi_gP nm 12 410 12 43 := fun _ => ⟨_, rfl, by decide, Or.inr ⟨rfl, (Or.inl (zi_t6 (j := 62) rfl rfl))⟩⟩
theorem zPN_47 : ∀ nm, zi_gP nm 12 432 12 45 := fun _ => ⟨_, rfl, by decide, Or.inr ⟨rfl, (Or.inl (zi_t6 (j := 64) rfl rfl))⟩⟩
theorem zPN_48 : ∀ nm, zi_gP nm 12 447 12 49 := fun _ => ⟨_, rfl, by decide, Or.inr ⟨rfl, (Or.inl (zi_t6 (j := 68) rfl rfl))⟩⟩
theorem zPN_49 : ∀ nm, zi_gP nm 12 453 12 48 := fun _ => ⟨_, rfl, by decide, Or.inr ⟨rfl, (Or.inl (zi_t6 (j := 67) rfl rfl))⟩⟩
set_option maxRecDepth 100000 in
theorem zi_PN_ok : ∀ q ∈ zi_PN, ∀ nm, zi_gP nm q.1 q.2.1 q.2.2.1 q.2.2.2 := List.forall_mem_cons.mpr ⟨zPN_0, List.forall_mem_cons.mpr ⟨zPN_1, List.forall_mem_cons.mpr ⟨zPN_2, List.forall_mem_cons.mpr ⟨zPN_3, List.forall_mem_cons.mpr ⟨zPN_4, List.forall_mem_cons.mpr ⟨zPN_5, List.forall_mem_cons.mpr ⟨zPN_6, List.forall_mem_cons.mpr ⟨zPN_7, List.forall_mem_cons.mpr ⟨zPN_8, List.forall_mem_cons.mpr ⟨zPN_9, List.forall_mem_cons.mpr ⟨zPN_10, List.forall_mem_cons.mpr ⟨zPN_11, List.forall_mem_cons.mpr ⟨zPN_12, List.forall_mem_cons.mpr ⟨zPN_13, List.forall_mem_cons.mpr ⟨zPN_14, List.forall_mem_cons.mpr ⟨zPN_15, List.forall_mem_cons.mpr ⟨zPN_16, List.forall_mem_cons.mpr ⟨zPN_17, List.forall_mem_cons.mpr ⟨zPN_18, List.forall_mem_cons.mpr ⟨zPN_19, List.forall_mem_cons.mpr ⟨zPN_20, List.forall_mem_cons.mpr ⟨zPN_21, List.forall_mem_cons.mpr ⟨zPN_22, List.forall_mem_cons.mpr ⟨zPN_23, List.forall_mem_cons.mpr ⟨zPN_24, List.forall_mem_cons.mpr ⟨zPN_25, List.forall_mem_cons.mpr ⟨zPN_26, List.forall_mem_cons.mpr ⟨zPN_27, List.forall_mem_cons.mpr ⟨zPN_28, List.forall_mem_cons.mpr ⟨zPN_29, List.forall_mem_cons.mpr ⟨zPN_30, List.forall_mem_cons.mpr ⟨zPN_31, List.forall_mem_cons.mpr ⟨zPN_32, List.forall_mem_cons.mpr ⟨zPN_33, List.forall_mem_cons.mpr ⟨zPN_34, List.forall_mem_cons.mpr ⟨zPN_35, List.forall_mem_cons.mpr ⟨zPN_36, List.forall_mem_cons.mpr ⟨zPN_37, List.forall_mem_cons.mpr ⟨zPN_38, List.forall_mem_cons.mpr ⟨zPN_39, List.forall_mem_cons.mpr ⟨zPN_40, List.forall_mem_cons.mpr ⟨zPN_41, List.forall_mem_cons.mpr ⟨zPN_42, List.forall_mem_cons.mpr ⟨zPN_43, List.forall_mem_cons.mpr ⟨zPN_44, List.forall_mem_cons.mpr ⟨zPN_45, List.forall_mem_cons.mpr ⟨zPN_46, List.forall_mem_cons.mpr ⟨zPN_47, List.forall_mem_cons.mpr ⟨zPN_48, List.forall_mem_cons.mpr ⟨zPN_49, fun _ h => absurd h List.not_mem_nil⟩⟩⟩⟩⟩⟩⟩⟩⟩⟩⟩⟩⟩⟩⟩⟩⟩⟩⟩⟩⟩⟩⟩⟩⟩⟩⟩⟩⟩⟩⟩⟩⟩⟩⟩⟩⟩⟩⟩⟩⟩⟩⟩⟩⟩⟩⟩⟩⟩⟩
theorem zPF_0 : zi_gP "<init>" 0 12 0 0 := ⟨_, rfl, by decide, Or.inl ⟨rfl, rfl, rfl, (zi_t1 (j := 99) rfl rfl)⟩⟩
theorem zPF_1 : zi_gP "<init>" 0 18 0 1 := ⟨_, rfl, by decide, Or.inl ⟨rfl, rfl, rfl, (zi_t1 (j := 102) rfl rfl)⟩⟩
theorem zPF_2 : zi_gP "<init>" 0 22 0 2 := ⟨_, rfl, by decide, Or.inl ⟨rfl, rfl, rfl, (zi_t1 (j := 105) rfl rfl)⟩⟩
theorem zPF_3 : zi_gP "<init>" 0 25 0 3 := ⟨_, rfl, by decide, Or.inl ⟨rfl, rfl, rfl, (zi_t1 (j := 108) rfl rfl)⟩⟩
theorem zPF_4 : zi_gP "<init>" 0 28 0 4 := ⟨_, rfl, by decide, Or.inl ⟨rfl, rfl, rfl, (zi_t1 (j := 111) rfl rfl)⟩⟩
theorem zPF_5 : zi_gP "<init>" 0 31 0 5 := ⟨_, rfl, by decide, Or.inl ⟨rfl, rfl, rfl, (zi_t1 (j := 114) rfl rfl)⟩⟩
theorem zPF_6 : zi_gP "<init>" 0 34 0 6 := ⟨_, rfl, by decide, Or.inl ⟨rfl, rfl, rfl, (zi_t1 (j := 116) rfl rfl)⟩⟩
theorem zPF_7 : zi_gP "<init>" 1 9 1 1 := ⟨_, rfl, by decide, Or.inl ⟨rfl, rfl, rfl, (zi_t1 (j := 206) rfl rfl)⟩⟩
theorem zPF_8 : zi_gP "<init>" 1 15 1 2 := ⟨_, rfl, by decide, Or.inl ⟨rfl, rfl, rfl, (zi_t1 (j := 207) rfl rfl)⟩⟩
theorem zPF_9 : zi_gP "<init>" 1 18 1 0 := ⟨_, rfl, by decide, Or.inl ⟨rfl, rfl, rfl, (zi_t1 (j := 205) rfl rfl)⟩⟩
theorem zPF_10 : zi_gP "<init>" 2 11 2 2 := ⟨_, rfl, by decide, Or.inl ⟨rfl, rfl, rfl, (zi_t2 (j := 8) rfl rfl)⟩⟩
theorem zPF_11 : zi_gP "<init>" 2 15 2 0 := ⟨_, rfl, by decide, Or.inl ⟨rfl, rfl, rfl, (zi_t2 (j := 6) rfl rfl)⟩⟩
theorem zPF_12 : zi_gP "<init>" 2 19 2 1 := ⟨_, rfl, by decide, Or.inl ⟨rfl, rfl, rfl, (zi_t2 (j := 7) rfl rfl)⟩⟩
theorem zPF_13 : zi_gP "<init>" 3 15 3 3 := ⟨_, rfl, by decide, Or.inl ⟨rfl, rfl, rfl, (zi_t1 (j := 165) rfl rfl)⟩⟩
theorem zPF_14 : zi_gP "<init>" 3 19 3 4 := ⟨_, rfl, by decide, Or.inl ⟨rfl, rfl, rfl, (zi_t1 (j := 168) rfl rfl)⟩⟩
theorem zPF_15 : zi_gP "<init>" 3 22 3 5 := ⟨_, rfl, by decide, Or.inl ⟨rfl, rfl, rfl, (zi_t1 (j := 171) rfl rfl)⟩⟩
theorem zPF_16 : zi_gP "<init>" 3 25 3 6 := ⟨_, rfl, by decide, Or.inl ⟨rfl, rfl, rfl, (zi_t1 (j := 175) rfl rfl)⟩⟩
theorem zPF_17 : zi_gP "<init>" 3 28 3 7 := ⟨_, rfl, by decide, Or.inl ⟨rfl, rfl, rfl, (zi_t1 (j := 179) rfl rfl)⟩⟩
theorem zPF_18 : zi_gP "<init>" 4 9 4 1 := ⟨_, rfl, by decide, Or.inl ⟨rfl, rfl, rfl, (zi_t2 (j := 24) rfl rfl)⟩⟩
theorem zPF_19 : zi_gP "<init>" 4 15 4 0 := ⟨_, rfl, by decide, Or.inl ⟨rfl, rfl, rfl, (zi_t2 (j := 23) rfl rfl)⟩⟩
theorem zPF_20 : zi_gP "<init>" 5 7 5 0 := ⟨_, rfl, by decide, Or.inl ⟨rfl, rfl, rfl, (zi_t1 (j := 60) rfl rfl)⟩⟩
theorem zPF_21 : zi_gP "<init>" 6 11 6 0 := ⟨_, rfl, by decide, Or.inl ⟨rfl, rfl, rfl, (zi_t2 (j := 73) rfl rfl)⟩⟩
theorem zPF_22 : zi_gP "<init>" 7 11 7 0 := ⟨_, rfl, by decide, Or.inl ⟨rfl, rfl, rfl, (zi_t1 (j := 80) rfl rfl)⟩⟩
theorem zPF_23 : zi_gP "<init>" 7 15 7 1 := ⟨_, rfl, by decide, Or.inl ⟨rfl, rfl, rfl, (zi_t1 (j := 81) rfl rfl)⟩⟩
theorem zPF_24 : zi_gP "<init>" 7 18 7 2 := ⟨_, rfl, by decide, Or.inl ⟨rfl, rfl, rfl, (zi_t1 (j := 82) rfl rfl)⟩⟩
theorem zPF_25 : zi_gP "<init>" 7 21 7 3 := ⟨_, rfl, by decide, Or.inl ⟨rfl, rfl, rfl, (zi_t1 (j := 83) rfl rfl)⟩⟩
theorem zPF_26 : zi_gP "<init>" 8 9 8 0 := ⟨_, rfl, by decide, Or.inl ⟨rfl, rfl, rfl, (zi_t1 (j := 40) rfl rfl)⟩⟩
theorem zPF_27 : zi_gP "<init>" 9 9 9 2 := ⟨_, rfl, by decide, Or.inl ⟨rfl, rfl, rfl, (zi_t1 (j := 225) rfl rfl)⟩⟩
theorem zPF_28 : zi_gP "<init>" 9 15 9 3 := ⟨_, rfl, by decide, Or.inl ⟨rfl, rfl, rfl, (zi_t1 (j := 226) rfl rfl)⟩⟩
theorem zPF_29 : zi_gP "<init>" 9 18 9 0 := ⟨_, rfl, by decide, Or.inl ⟨rfl, rfl, rfl, (zi_t1 (j := 223) rfl rfl)⟩⟩
theorem zPF_30 : zi_gP "<init>" 9 22 9 1 := ⟨_, rfl, by decide, Or.inl ⟨rfl, rfl, rfl, (zi_t1 (j := 224) rfl rfl)⟩⟩
theorem zPF_31 : zi_gP "<init>" 10 9 10 0 := ⟨_, rfl, by decide, Or.inl ⟨rfl, rfl, rfl, (zi_t2 (j := 48) rfl rfl)⟩⟩
theorem zPF_32 : zi_gP "<init>" 10 13 10 1 := ⟨_, rfl, by decide, Or.inl ⟨rfl, rfl, rfl, (zi_t2 (j := 49) rfl rfl)⟩⟩
theorem zPF_33 : zi_gP "<init>" 10 16 10 2 := ⟨_, rfl, by decide, Or.inl ⟨rfl, rfl, rfl, (zi_t2 (j := 50) rfl rfl)⟩⟩
theorem zPF_34 : zi_gP "<init>" 11 10 11 0 := ⟨_, rfl, by decide, Or.inl ⟨rfl, rfl, rfl, (zi_t2 (j := 83) rfl rfl)⟩⟩
theorem zPF_35 : zi_gP "<init>" 11 19 11 1 := ⟨_, rfl, by decide, Or.inl ⟨rfl, rfl, rfl, (zi_t2 (j := 84) rfl rfl)⟩⟩
theorem zPF_36 : zi_gP "<init>" 11 26 11 2 := ⟨_, rfl, by decide, Or.inl ⟨rfl, rfl, rfl, (zi_t2 (j := 85) rfl rfl)⟩⟩
theorem zPF_37 : zi_gP "<init>" 11 33 11 3 := ⟨_, rfl, by decide, Or.inl ⟨rfl, rfl, rfl, (zi_t2 (j := 86) rfl rfl)⟩⟩
theorem zPF_38 : zi_gP "<init>" 11 37 11 4 := ⟨_, rfl, by decide, Or.inl ⟨rfl, rfl, rfl, (zi_t2 (j := 87) rfl rfl)⟩⟩
theorem zPF_39 : zi_gP "<init>" 11 40 11 5 := ⟨_, rfl, by decide, Or.inl ⟨rfl, rfl, rfl, (zi_t2 (j := 88) rfl rfl)⟩⟩
theorem zPF_40 : zi_gP "<init>" 11 48 11 6 := ⟨_, rfl, by decide, Or.inl ⟨rfl, rfl, rfl, (zi_t2 (j := 89) rfl rfl)⟩⟩
theorem zPF_41 : zi_gP "<init>" 11 57 11 7 := ⟨_, rfl, by decide, Or.inl ⟨rfl, rfl, rfl, (zi_t2 (j := 90) rfl rfl)⟩⟩
theorem zPF_42 : zi_gP "<init>" 11 64 11 8 := ⟨_, rfl, by decide, Or.inl ⟨rfl, rfl, rfl, (zi_t2 (j := 91) rfl rfl)⟩⟩
theorem zPF_43 : zi_gP "<init>" 11 71 11 9 := ⟨_, rfl, by decide, Or.inl ⟨rfl, rfl, rfl, (zi_t2 (j := 92) rfl rfl)⟩⟩
theorem zPF_44 : zi_gP "<init>" 11 78 11 10 := ⟨_, rfl, by decide, Or.inl ⟨rfl, rfl, rfl, (zi_t2 (j := 93) rfl rfl)⟩⟩
theorem zPF_45 : zi_gP "<init>" 11 85 11 11 := ⟨_, rfl, by decide, Or.inl ⟨rfl, rfl, rfl, (zi_t2 (j := 94) rfl rfl)⟩⟩
theorem zPF_46 : zi_gP "<init>" 11 89 11 12 := ⟨_, rfl, by decide, Or.inl ⟨rfl, rfl, rfl, (zi_t2 (j := 95) rfl rfl)⟩⟩
theorem zPF_47 : zi_gP "<init>" 11 93 11 13 := ⟨_, rfl, by decide, Or.inl ⟨rfl, rfl, rfl, (zi_t2 (j := 96) rfl rfl)⟩⟩
theorem zPF_48 : zi_gP "<init>" 12 9 12 2 := ⟨_, rfl, by decide, Or.inl ⟨rfl, rfl, rfl, (zi_t6 (j := 21) rfl rfl)⟩⟩
theorem zPF_49 : zi_gP "<init>" 12 13 12 8 := ⟨_, rfl, by decide, Or.inl ⟨rfl, rfl, rfl, (zi_t6 (j := 27) rfl rfl)⟩⟩
theorem zPF_50 : zi_gP "<init>" 12 17 12 9 := ⟨_, rfl, by decide, Or.inl ⟨rfl, rfl, rfl, (zi_t6 (j := 28) rfl rfl)⟩⟩
theorem zPF_51 : zi_gP "<init>" 12 20 12 10 := ⟨_, rfl, by decide, Or.inl ⟨rfl, rfl, rfl, (zi_t6 (j := 29) rfl rfl)⟩⟩
theorem zPF_52 : zi_gP "<init>" 12 23 12 11 := ⟨_, rfl, by decide, Or.inl ⟨rfl, rfl, rfl, (zi_t6 (j := 30) rfl rfl)⟩⟩
theorem zPF_53 : zi_gP "<init>" 12 26 12 12 := ⟨_, rfl, by decide, Or.inl ⟨rfl, rfl, rfl, (zi_t6 (j := 31) rfl rfl)⟩⟩
theorem zPF_54 : zi_gP "<init>" 12 29 12 13 := ⟨_, rfl, by decide, Or.inl ⟨rfl, rfl, rfl, (zi_t6 (j := 32) rfl rfl)⟩⟩
theorem zPF_55 : zi_gP "<init>" 12 32 12 14 := ⟨_, rfl, by decide, Or.inl ⟨rfl, rfl, rfl, (zi_t6 (j := 33) rfl rfl)⟩⟩
theorem zPF_56 : zi_gP "<init>" 12 35 12 15 := ⟨_, rfl, by decide, Or.inl ⟨rfl, rfl, rfl, (zi_t6 (j := 34) rfl rfl)⟩⟩
theorem zPF_57 : zi_gP "<init>" 12 38 12 16 := ⟨_, rfl, by decide, Or.inl ⟨rfl, rfl, rfl, (zi_t6 (j := 35) rfl rfl)⟩⟩
theorem zPF_58 : zi_gP "<init>" 12 41 12 21 := ⟨_, rfl, by decide, Or.inl ⟨rfl, rfl, rfl, (zi_t6 (j := 40) rfl rfl)⟩⟩
theorem zPF_59 : zi_gP "<init>" 12 44 12 23 := ⟨_, rfl, by decide, Or.inl ⟨rfl, rfl, rfl, (zi_t6 (j := 42) rfl rfl)⟩⟩
theorem zPF_60 : zi_gP "<init>" 12 47 12 24 := ⟨_, rfl, by decide, Or.inl ⟨rfl, rfl, rfl, (zi_t6 (j := 43) rfl rfl)⟩⟩
theorem zPF_61 : zi_gP "<init>" 12 50 12 27 := ⟨_, rfl, by decide, Or.inl ⟨rfl, rfl, rfl, (zi_t6 (j := 46) rfl rfl)⟩⟩
theorem zPF_62 : zi_gP "<init>" 12 53 12 28 := ⟨_, rfl, by decide, Or.inl ⟨rfl, rfl, rfl, (zi_t6 (j := 47) rfl rfl)⟩⟩
theorem zPF_63 : zi_gP "<init>" 12 56 12 29 := ⟨_, rfl, by decide, Or.inl ⟨rfl, rfl, rfl, (zi_t6 (j := 48) rfl rfl)⟩⟩
theorem zPF_64 : zi_gP "<init>" 12 59 12 30 := ⟨_, rfl, by decide, Or.inl ⟨rfl, rfl, rfl, (zi_t6 (j := 49) rfl rfl)⟩⟩
theorem zPF_65 : zi_gP "<init>" 12 62 12 32 := ⟨_, rfl, by decide, Or.inl ⟨rfl, rfl, rfl, (zi_t6 (j := 51) rfl rfl)⟩⟩
theorem zPF_66 : zi_gP "<init>" 12 65 12 33 := ⟨_, rfl, by decide, Or.inl ⟨rfl, rfl, rfl, (zi_t6 (j := 52) rfl rfl)⟩⟩
theorem zPF_67 : zi_gP "<init>" 12 68 12 34 := ⟨_, rfl, by decide, Or.inl ⟨rfl, rfl, rfl, (zi_t6 (j := 53) rfl rfl)⟩⟩
theorem zPF_68 : zi_gP "<init>" 12 71 12 35 := ⟨_, rfl, by decide, Or.inl ⟨rfl, rfl, rfl, (zi_t6 (j := 54) rfl rfl)⟩⟩
theorem zPF_69 : zi_gP "<init>" 12 74 12 40 := ⟨_, rfl, by decide, Or.inl ⟨rfl, rfl, rfl, (zi_t6 (j := 59) rfl rfl)⟩⟩
theorem zPF_70 : zi_gP "<init>" 12 77 12 41 := ⟨_, rfl, by decide, Or.inl ⟨rfl, rfl, rfl, (zi_t6 (j := 60) rfl rfl)⟩⟩
theorem zPF_71 : zi_gP "<init>" 12 80 12 44 := ⟨_, rfl, by decide, Or.inl ⟨rfl, rfl, rfl, (zi_t6 (j := 63) rfl rfl)⟩⟩
theorem zPF_72 : zi_gP "<init>" 12 83 12 46 := ⟨_, rfl, by decide, Or.inl ⟨rfl, rfl, rfl, (zi_t6 (j := 65) rfl rfl)⟩⟩
theorem zPF_73 : zi_gP "<init>" 12 86 12 47 := ⟨_, rfl, by decide, Or.inl ⟨rfl, rfl, rfl, (zi_t6 (j := 66) rfl rfl)⟩⟩
theorem zPF_74 : zi_gP "<init>" 12 89 12 50 := ⟨_, rfl, by decide, Or.inl ⟨rfl, rfl, rfl, (zi_t6 (j := 69) rfl rfl)⟩⟩
theorem zPF_75 : zi_gP "<init>" 12 93 12 51 := ⟨_, rfl, by decide, Or.inl ⟨rfl, rfl, rfl, (zi_t6 (j := 70) rfl rfl)⟩⟩
theorem zPF_76 : zi_gP "<init>" 12 96 12 52 := ⟨_, rfl, by decide, Or.inl ⟨rfl, rfl, rfl, (zi_t6 (j := 71) rfl rfl)⟩⟩
set_option maxRecDepth 100000 in
theorem zi_PF_ok : ∀ q ∈ zi_PF, zi_gP "<init>" q.1 q.2.1 q.2.2.1 q.2.2.2 := List.forall_mem_cons.mpr ⟨zPF_0, List.forall_mem_cons.mpr ⟨zPF_1, List.forall_mem_cons.mpr ⟨zPF_2, List.forall_mem_cons.mpr ⟨zPF_3, List.forall_mem_cons.mpr ⟨zPF_4, List.forall_mem_cons.mpr ⟨zPF_5, List.forall_mem_cons.mpr ⟨zPF_6, List.forall_mem_cons.mpr ⟨zPF_7, List.forall_mem_cons.mpr ⟨zPF_8, List.forall_mem_cons.mpr ⟨zPF_9, List.forall_mem_cons.mpr ⟨zPF_10, List.forall_mem_cons.mpr ⟨zPF_11, List.forall_mem_cons.mpr ⟨zPF_12, List.forall_mem_cons.mpr ⟨zPF_13, List.forall_mem_cons.mpr ⟨zPF_14, List.forall_mem_cons.mpr ⟨zPF_15, List.forall_mem_cons.mpr ⟨zPF_16, List.forall_mem_cons.mpr ⟨zPF_17, List.forall_mem_cons.mpr ⟨zPF_18, List.forall_mem_cons.mpr ⟨zPF_19, List.forall_mem_cons.mpr ⟨zPF_20, List.forall_mem_cons.mpr ⟨zPF_21, List.forall_mem_cons.mpr ⟨zPF_22, List.forall_mem_cons.mpr ⟨zPF_23, List.forall_mem_cons.mpr ⟨zPF_24, List.forall_mem_cons.mpr ⟨zPF_25, List.forall_mem_cons.mpr ⟨zPF_26, List.forall_mem_cons.mpr ⟨zPF_27, List.forall_mem_cons.mpr ⟨zPF_28, List.forall_mem_cons.mpr ⟨zPF_29, List.forall_mem_cons.mpr ⟨zPF_30, List.forall_mem_cons.mpr ⟨zPF_31, List.forall_mem_cons.mpr ⟨zPF_32, List.forall_mem_cons.mpr ⟨zPF_33, List.forall_mem_cons.mpr ⟨zPF_34, List.forall_mem_cons.mpr ⟨zPF_35, List.forall_mem_cons.mpr ⟨zPF_36, List.forall_mem_cons.mpr ⟨zPF_37, List.forall_mem_cons.mpr ⟨zPF_38, List.forall_mem_cons.mpr ⟨zPF_39, List.forall_mem_cons.mpr ⟨zPF_40, List.forall_mem_cons.mpr ⟨zPF_41, List.forall_mem_cons.mpr ⟨zPF_42, List.forall_mem_cons.mpr ⟨zPF_43, List.forall_mem_cons.mpr ⟨zPF_44, List.forall_mem_cons.mpr ⟨zPF_45, List.forall_mem_cons.mpr ⟨zPF_46, List.forall_mem_cons.mpr ⟨zPF_47, List.forall_mem_cons.mpr ⟨zPF_48, List.forall_mem_cons.mpr ⟨zPF_49, List.forall_mem_cons.mpr ⟨zPF_50, List.forall_mem_cons.mpr ⟨zPF_51, List.forall_mem_cons.mpr ⟨zPF_52, List.forall_mem_cons.mpr ⟨zPF_53, List.forall_mem_cons.mpr ⟨zPF_54, List.forall_mem_cons.mpr ⟨zPF_55, List.forall_mem_cons.mpr ⟨zPF_56, List.forall_mem_cons.mpr ⟨zPF_57, List.forall_mem_cons.mpr ⟨zPF_58, List.forall_mem_cons.mpr ⟨zPF_59, List.forall_mem_cons.mpr ⟨zPF_60, List.forall_mem_cons.mpr ⟨zPF_61, List.forall_mem_cons.mpr ⟨zPF_62, List.forall_mem_cons.mpr ⟨zPF_63, List.forall_mem_cons.mpr ⟨zPF_64, List.forall_mem_cons.mpr ⟨zPF_65, List.forall_mem_cons.mpr ⟨zPF_66, List.forall_mem_cons.mpr ⟨zPF_67, List.forall_mem_cons.mpr ⟨zPF_68, List.forall_mem_cons.mpr ⟨zPF_69, List.forall_mem_cons.mpr ⟨zPF_70, List.forall_mem_cons.mpr ⟨zPF_71, List.forall_mem_cons.mpr ⟨zPF_72, List.forall_mem_cons.mpr ⟨zPF_73, List.forall_mem_cons.mpr ⟨zPF_74, List.forall_mem_cons.mpr ⟨zPF_75, List.forall_mem_cons.mpr ⟨zPF_76, fun _ h => absurd h List.not_mem_nil⟩⟩⟩⟩⟩⟩⟩⟩⟩⟩⟩⟩⟩⟩⟩⟩⟩⟩⟩⟩⟩⟩⟩⟩⟩⟩⟩⟩⟩⟩⟩⟩⟩⟩⟩⟩⟩⟩⟩⟩⟩⟩⟩⟩⟩⟩⟩⟩⟩⟩⟩⟩⟩⟩⟩⟩⟩⟩⟩⟩⟩⟩⟩⟩⟩⟩⟩⟩⟩⟩⟩⟩⟩⟩⟩⟩⟩
theorem zV_0 : zi_gV zi_M 0 47 9 2 := zi_mkV zm_9 (Or.inl (zi_t2 (j := 184) rfl rfl)) (zi_t2 (j := 186) rfl rfl) (zi_s1 (j := 2) rfl) (Or.inl ⟨_, rfl, rfl⟩)
theorem zV_1 : zi_gV zi_M 0 51 10 3 := zi_mkV zm_10 (Or.inl (zi_t2 (j := 200) rfl rfl)) (zi_t2 (j := 202) rfl rfl) (zi_s1 (j := 3) rfl) (Or.inl ⟨_, rfl, rfl⟩)
theorem zV_2 : zi_gV zi_M 0 55 11 3 := zi_mkV zm_11 (Or.inl (zi_t2 (j := 213) rfl rfl)) (zi_t2 (j := 215) rfl rfl) (zi_s1 (j := 5) rfl) (Or.inl ⟨_, rfl, rfl⟩)
theorem zV_3 : zi_gV zi_M 0 58 1610 2 := zi_mkV zm_1610 (Or.inl (zi_t2 (j := 188) rfl rfl)) (zi_t2 (j := 189) rfl rfl) (zi_t2 (j := 190) rfl rfl) (Or.inl ⟨_, rfl, rfl⟩)
theorem zV_4 : zi_gV zi_M 0 64 12 1 := zi_mkV zm_12 (Or.inl (zi_t2 (j := 204) rfl rfl)) (zi_t2 (j := 206) rfl rfl) (zi_s1 (j := 4) rfl) (Or.inl ⟨_, rfl, rfl⟩)
theorem zV_5 : zi_gV zi_M 0 68 1611 1 := zi_mkV zm_1611 (Or.inl (zi_t2 (j := 208) rfl rfl)) (zi_t2 (j := 209) rfl rfl) (zi_t2 (j := 210) rfl rfl) (Or.inl ⟨_, rfl, rfl⟩)
theorem zV_6 : zi_gV zi_M 1 31 19 2 := zi_mkV zm_19 (Or.inl (zi_t3 (j := 224) rfl rfl)) (zi_t3 (j := 225) rfl rfl) (zi_t3 (j := 226) rfl rfl) (Or.inl ⟨_, rfl, rfl⟩)
theorem zV_7 : zi_gV zi_M 1 40 203 2 := zi_mkV zm_203 (Or.inl (zi_t3 (j := 236) rfl rfl)) (zi_t3 (j := 237) rfl rfl) (zi_t3 (j := 238) rfl rfl) (Or.inl ⟨_, rfl, rfl⟩)
theorem zV_8 : zi_gV zi_M 1 44 205 3 := zi_mkV zm_205 (Or.inl (zi_t4 (j := 0) rfl rfl)) (zi_t4 (j := 2) rfl rfl) (zi_s2 (j := 0) rfl) (Or.inl ⟨_, rfl, rfl⟩)
theorem zV_9 : zi_gV zi_M 2 23 201 3 := zi_mkV zm_201 (Or.inl (zi_t4 (j := 156) rfl rfl)) (zi_t3 (j := 212) rfl rfl) (zi_t3 (j := 213) rfl rfl) (Or.inl ⟨_, rfl, rfl⟩)
theorem zV_10 : zi_gV zi_M 2 29 203 2 := zi_mkV zm_203 (Or.inl (zi_t4 (j := 157) rfl rfl)) (zi_t3 (j := 237) rfl rfl) (zi_t3 (j := 238) rfl rfl) (Or.inl ⟨_, rfl, rfl⟩)
theorem zV_11 : zi_gV zi_M 2 33 404 2 := zi_mkV zm_404 (Or.inl (zi_t4 (j := 162) rfl rfl)) (zi_t4 (j := 164) rfl rfl) (zi_s2 (j := 9) rfl) (Or.inl ⟨_, rfl, rfl⟩)
theorem zV_12 : zi_gV zi_M 2 36 18 1 := zi_mkV zm_18 (Or.inl (zi_t4 (j := 166) rfl rfl)) (zi_t4 (j := 167) rfl rfl) (zi_t4 (j := 168) rfl rfl) (Or.inl ⟨_, rfl, rfl⟩)
theorem zV_13 : zi_gV zi_M 4 40 804 2 := zi_mkV zm_804 (Or.inl (zi_t5 (j := 67) rfl rfl)) (zi_t5 (j := 69) rfl rfl) (zi_s3 (j := 2) rfl) (Or.inl ⟨_, rfl, rfl⟩)
theorem zV_14 : zi_gV zi_M 4 50 805 0 := zi_mkV zm_805 (Or.inl (zi_t5 (j := 80) rfl rfl)) (zi_t5 (j := 56) rfl rfl) (zi_t5 (j := 57) rfl rfl) (Or.inl ⟨_, rfl, rfl⟩)
theorem zV_15 : zi_gV zi_M 4 54 808 1 := zi_mkV zm_808 (Or.inl (zi_t5 (j := 81) rfl rfl)) (zi_t5 (j := 83) rfl rfl) (zi_s3 (j := 3) rfl) (Or.inl ⟨_, rfl, rfl⟩)
theorem zV_16 : zi_gV zi_M 4 58 809 0 := zi_mkV zm_809 (Or.inl (zi_t5 (j := 89) rfl rfl)) (zi_t5 (j := 91) rfl rfl) (zi_s3 (j := 5) rfl) (Or.inl ⟨_, rfl, rfl⟩)
theorem zV_17 : zi_gV zi_M 4 62 811 3 := zi_mkV zm_811 (Or.inl (zi_t5 (j := 93) rfl rfl)) (zi_t5 (j := 95) rfl rfl) (zi_s3 (j := 6) rfl) (Or.inl ⟨_, rfl, rfl⟩)
theorem zV_18 : zi_gV zi_M 4 69 810 3 := zi_mkV zm_810 (Or.inl (zi_t5 (j := 85) rfl rfl)) (zi_t5 (j := 87) rfl rfl) (zi_s3 (j := 4) rfl) (Or.inl ⟨_, rfl, rfl⟩)
theorem zV_19 : zi_gV zi_M 5 17 1003 0 := zi_mkV zm_1003 (Or.inl (zi_t4 (j := 121) rfl rfl)) (zi_t4 (j := 47) rfl rfl) (zi_t4 (j := 48) rfl rfl) (Or.inl ⟨_, rfl, rfl⟩)
theorem zV_20 : zi_gV zi_M 5 20 1004 1 := zi_mkV zm_1004 (Or.inl (zi_t4 (j := 122) rfl rfl)) (zi_t4 (j := 51) rfl rfl) (zi_t4 (j := 52) rfl rfl) (Or.inl ⟨_, rfl, rfl⟩)
theorem zV_21 : zi_gV zi_M 6 23 601 1 := zi_mkV zm_601 (Or.inl (zi_t3 (j := 177) rfl rfl)) (zi_t3 (j := 153) rfl rfl) (zi_t3 (j := 154) rfl rfl) (Or.inl ⟨_, rfl, rfl⟩)
theorem zV_22 : zi_gV zi_M 7 24 1605 1 := zi_mkV zm_1605 (Or.inl (zi_t3 (j := 10) rfl rfl)) (zi_t2 (j := 158) rfl rfl) (zi_t2 (j := 159) rfl rfl) (Or.inl ⟨_, rfl, rfl⟩)
theorem zV_23 : zi_gV zi_M 7 34 1608 0 := zi_mkV zm_1608 (Or.inl (zi_t3 (j := 11) rfl rfl)) (zi_t2 (j := 165) rfl rfl) (zi_t2 (j := 166) rfl rfl) (Or.inl ⟨_, rfl, rfl⟩)
theorem zV_24 : zi_gV zi_M 7 38 1404 2 := zi_mkV zm_1404 (Or.inl (zi_t3 (j := 12) rfl rfl)) (zi_t3 (j := 14) rfl rfl) (zi_s1 (j := 6) rfl) (Or.inl ⟨_, rfl, rfl⟩)
theorem zV_25 : zi_gV zi_M 7 42 1609 0 := zi_mkV zm_1609 (Or.inl (zi_t3 (j := 125) rfl rfl)) (zi_t2 (j := 218) rfl rfl) (zi_t2 (j := 219) rfl rfl) (Or.inl ⟨_, rfl, rfl⟩)
theorem zV_26 : zi_gV zi_M 7 55 1410 0 := zi_mkV zm_1410 (Or.inl (zi_t4 (j := 28) rfl rfl)) (zi_t4 (j := 30) rfl rfl) (zi_s2 (j := 2) rfl) (Or.inl ⟨_, rfl, rfl⟩)
theorem zV_27 : zi_gV zi_M 7 67 1405 2 := zi_mkV zm_1405 (Or.inl (zi_t3 (j := 16) rfl rfl)) (zi_t3 (j := 18) rfl rfl) (zi_s1 (j := 7) rfl) (Or.inl ⟨_, rfl, rfl⟩)
theorem zV_28 : zi_gV zi_M 7 70 1610 2 := zi_mkV zm_1610 (Or.inl (zi_t3 (j := 28) rfl rfl)) (zi_t2 (j := 189) rfl rfl) (zi_t2 (j := 190) rfl rfl) (Or.inl ⟨_, rfl, rfl⟩)
theorem zV_29 : zi_gV zi_M 7 73 1409 1 := zi_mkV zm_1409 (Or.inl (zi_t3 (j := 34) rfl rfl)) (zi_t3 (j := 36) rfl rfl) (zi_s1 (j := 11) rfl) (Or.inl ⟨_, rfl, rfl⟩)
theorem zV_30 : zi_gV zi_M 7 77 1406 2 := zi_mkV zm_1406 (Or.inl (zi_t3 (j := 20) rfl rfl)) (zi_t3 (j := 22) rfl rfl) (zi_s1 (j := 8) rfl) (Or.inl ⟨_, rfl, rfl⟩)
theorem zV_31 : zi_gV zi_M 7 80 1606 0 := zi_mkV zm_1606 (Or.inl (zi_t3 (j := 38) rfl rfl)) (zi_t2 (j := 193) rfl rfl) (zi_t2 (j := 194) rfl rfl) (Or.inl ⟨_, rfl, rfl⟩)
theorem zV_32 : zi_gV zi_M 7 83 1607 0 := zi_mkV zm_1607 (Or.inl (zi_t3 (j := 39) rfl rfl)) (zi_t2 (j := 197) rfl rfl) (zi_t2 (j := 198) rfl rfl) (Or.inl ⟨_, rfl, rfl⟩)
theorem zV_33 : zi_gV zi_M 7 86 1407 2 := zi_mkV zm_1407 (Or.inl (zi_t3 (j := 24) rfl rfl)) (zi_t3 (j := 26) rfl rfl) (zi_s1 (j := 9) rfl) (Or.inl ⟨_, rfl, rfl⟩)
theorem zV_34 : zi_gV zi_M 7 89 1408 2 := zi_mkV zm_1408 (Or.inl (zi_t3 (j := 29) rfl rfl)) (zi_t3 (j := 31) rfl rfl) (zi_s1 (j := 10) rfl) (Or.inl ⟨_, rfl, rfl⟩)
theorem zV_35 : zi_gV zi_M 7 92 1611 1 := zi_mkV zm_1611 (Or.inl (zi_t3 (j := 33) rfl rfl)) (zi_t2 (j := 209) rfl rfl) (zi_t2 (j := 210) rfl rfl) (Or.inl ⟨_, rfl, rfl⟩)
theorem zV_36 : zi_gV zi_M 7 98 3002 1 := zi_mkV zm_3002 (Or.inl (zi_t3 (j := 41) rfl rfl)) (zi_t3 (j := 42) rfl rfl) (zi_t3 (j := 43) rfl rfl) (Or.inr rfl)
theorem zV_37 : zi_gV zi_M 8 29 1606 0 := zi_mkV zm_1606 (Or.inl (zi_t2 (j := 192) rfl rfl)) (zi_t2 (j := 193) rfl rfl) (zi_t2 (j := 194) rfl rfl) (Or.inl ⟨_, rfl, rfl⟩)
theorem zV_38 : zi_gV zi_M 8 33 1607 0 := zi_mkV zm_1607 (Or.inl (zi_t2 (j := 196) rfl rfl)) (zi_t2 (j := 197) rfl rfl) (zi_t2 (j := 198) rfl rfl) (Or.inl ⟨_, rfl, rfl⟩)
theorem zV_39 : zi_gV zi_M 8 36 1610 2 := zi_mkV zm_1610 (Or.inl (zi_t2 (j := 212) rfl rfl)) (zi_t2 (j := 189) rfl rfl) (zi_t2 (j := 190) rfl rfl) (Or.inl ⟨_, rfl, rfl⟩)
theorem zV_40 : zi_gV zi_M 9 31 1 1 := zi_mkV zm_1 (Or.inl (zi_t3 (j := 207) rfl rfl)) (zi_t3 (j := 208) rfl rfl) (zi_t3 (j := 209) rfl rfl) (Or.inl ⟨_, rfl, rfl⟩)
theorem zV_41 : zi_gV zi_M 9 37 4 1 := zi_mkV zm_4 (Or.inl (zi_t3 (j := 202) rfl rfl)) (zi_t3 (j := 162) rfl rfl) (zi_t3 (j := 163) rfl rfl) (Or.inl ⟨_, rfl, rfl⟩)
theorem zV_42 : zi_gV zi_M 9 40 1802 3 := zi_mkV zm_1802 (Or.inl (zi_t3 (j := 203) rfl rfl)) (zi_t3 (j := 204) rfl rfl) (zi_t3 (j := 205) rfl rfl) (Or.inl ⟨_, rfl, rfl⟩)
theorem zV_43 : zi_gV zi_M 9 44 201 3 := zi_mkV zm_201 (Or.inl (zi_t3 (j := 211) rfl rfl)) (zi_t3 (j := 212) rfl rfl) (zi_t3 (j := 213) rfl rfl) (Or.inl ⟨_, rfl, rfl⟩)
theorem zV_44 : zi_gV zi_M 9 50 15 2 := zi_mkV zm_15 (Or.inl (zi_t3 (j := 228) rfl rfl)) (zi_t3 (j := 229) rfl rfl) (zi_t3 (j := 230) rfl rfl) (Or.inl ⟨_, rfl, rfl⟩)
theorem zV_45 : zi_gV zi_M 9 54 204 1 := zi_mkV zm_204 (Or.inl (zi_t3 (j := 232) rfl rfl)) (zi_t3 (j := 233) rfl rfl) (zi_t3 (j := 234) rfl rfl) (Or.inl ⟨_, rfl, rfl⟩)
theorem zV_46 : zi_gV zi_M 9 64 602 1 := zi_mkV zm_602 (Or.inl (zi_t4 (j := 7) rfl rfl)) (zi_t4 (j := 8) rfl rfl) (zi_t4 (j := 9) rfl rfl) (Or.inl ⟨_, rfl, rfl⟩)
theorem zV_47 : zi_gV zi_M 9 68 1803 3 := zi_mkV zm_1803 (Or.inl (zi_t3 (j := 198) rfl rfl)) (zi_t3 (j := 200) rfl rfl) (zi_s1 (j := 15) rfl) (Or.inl ⟨_, rfl, rfl⟩)
theorem zV_48 : zi_gV zi_M 9 71 1806 4 := zi_mkV zm_1806 (Or.inl (zi_t4 (j := 11) rfl rfl)) (zi_t4 (j := 13) rfl rfl) (zi_s2 (j := 1) rfl) (Or.inl ⟨_, rfl, rfl⟩)
theorem zV_49 : zi_gV zi_M 9 75 603 2 := zi_mkV zm_603 (Or.inl (zi_t4 (j := 37) rfl rfl)) (zi_t4 (j := 38) rfl rfl) (zi_t4 (j := 39) rfl rfl) (Or.inl ⟨_, rfl, rfl⟩)
theorem zV_50 : zi_gV zi_M 9 101 1402 2 := zi_mkV zm_1402 (Or.inl (zi_t4 (j := 15) rfl rfl)) (zi_t4 (j := 16) rfl rfl) (zi_t4 (j := 17) rfl rfl) (Or.inl ⟨_, rfl, rfl⟩)
theorem zV_51 : zi_gV zi_M 9 106 17 2 := zi_mkV zm_17 (Or.inl (zi_t4 (j := 19) rfl rfl)) (zi_t4 (j := 20) rfl rfl) (zi_t4 (j := 21) rfl rfl) (Or.inl ⟨_, rfl, rfl⟩)
theorem zV_52 : zi_gV zi_M 9 117 1403 0 := zi_mkV zm_1403 (Or.inl (zi_t4 (j := 24) rfl rfl)) (zi_t4 (j := 25) rfl rfl) (zi_t4 (j := 26) rfl rfl) (Or.inl ⟨_, rfl, rfl⟩)
theorem zV_53 : zi_gV zi_M 9 124 1801 3 := zi_mkV zm_1801 (Or.inl (zi_t4 (j := 188) rfl rfl)) (zi_t4 (j := 189) rfl rfl) (zi_t4 (j := 190) rfl rfl) (Or.inl ⟨_, rfl, rfl⟩)
theorem zV_54 : zi_gV zi_M 9 127 1805 3 := zi_mkV zm_1805 (Or.inl (zi_t4 (j := 192) rfl rfl)) (zi_t3 (j := 195) rfl rfl) (zi_t3 (j := 196) rfl rfl) (Or.inl ⟨_, rfl, rfl⟩)
theorem zV_55 : zi_gV zi_M 9 133 1809 3 := zi_mkV zm_1809 (Or.inl (zi_t5 (j := 19) rfl rfl)) (zi_t5 (j := 21) rfl rfl) (zi_s3 (j := 1) rfl) (Or.inl ⟨_, rfl, rfl⟩)
theorem zV_56 : zi_gV zi_M 9 136 20 1 := zi_mkV zm_20 (Or.inl (zi_t5 (j := 23) rfl rfl)) (zi_t5 (j := 24) rfl rfl) (zi_t5 (j := 25) rfl rfl) (Or.inl ⟨_, rfl, rfl⟩)
theorem zV_57 : zi_gV zi_M 10 19 1605 1 := zi_mkV zm_1605 (Or.inl (zi_t4 (j := 212) rfl rfl)) (zi_t2 (j := 158) rfl rfl) (zi_t2 (j := 159) rfl rfl) (Or.inl ⟨_, rfl, rfl⟩)
theorem zV_58 : zi_gV zi_M 10 32 1610 2 := zi_mkV zm_1610 (Or.inl (zi_t4 (j := 213) rfl rfl)) (zi_t2 (j := 189) rfl rfl) (zi_t2 (j := 190) rfl rfl) (Or.inl ⟨_, rfl, rfl⟩)
theorem zV_59 : zi_gV zi_M 10 36 1608 0 := zi_mkV zm_1608 (Or.inl (zi_t4 (j := 214) rfl rfl)) (zi_t2 (j := 165) rfl rfl) (zi_t2 (j := 166) rfl rfl) (Or.inl ⟨_, rfl, rfl⟩)
theorem zV_60 : zi_gV zi_M 10 40 1609 0 := zi_mkV zm_1609 (Or.inl (zi_t4 (j := 215) rfl rfl)) (zi_t2 (j := 218) rfl rfl) (zi_t2 (j := 219) rfl rfl) (Or.inl ⟨_, rfl, rfl⟩)
theorem zV_61 : zi_gV zi_M 10 44 2004 0 := zi_mkV zm_2004 (Or.inl (zi_t4 (j := 221) rfl rfl)) (zi_t4 (j := 223) rfl rfl) (zi_s2 (j := 11) rfl) (Or.inl ⟨_, rfl, rfl⟩)
theorem zV_62 : zi_gV zi_M 10 47 2008 3 := zi_mkV zm_2008 (Or.inl (zi_t4 (j := 236) rfl rfl)) (zi_t4 (j := 238) rfl rfl) (zi_s2 (j := 14) rfl) (Or.inl ⟨_, rfl, rfl⟩)
theorem zV_63 : zi_gV zi_M 10 51 1005 1 := zi_mkV zm_1005 (Or.inl (zi_t5 (j := 5) rfl rfl)) (zi_t4 (j := 118) rfl rfl) (zi_t4 (j := 119) rfl rfl) (Or.inl ⟨_, rfl, rfl⟩)
theorem zV_64 : zi_gV zi_M 10 57 2003 3 := zi_mkV zm_2003 (Or.inl (zi_t5 (j := 6) rfl rfl)) (zi_t5 (j := 8) rfl rfl) (zi_s3 (j := 0) rfl) (Or.inl ⟨_, rfl, rfl⟩)
theorem zV_65 : zi_gV zi_M 10 61 1004 1 := zi_mkV zm_1004 (Or.inl (zi_t5 (j := 10) rfl rfl)) (zi_t4 (j := 51) rfl rfl) (zi_t4 (j := 52) rfl rfl) (Or.inl ⟨_, rfl, rfl⟩)
theorem zV_66 : zi_gV zi_M 10 64 2006 3 := zi_mkV zm_2006 (Or.inl (zi_t5 (j := 0) rfl rfl)) (zi_t5 (j := 2) rfl rfl) (zi_s2 (j := 15) rfl) (Or.inl ⟨_, rfl, rfl⟩)
theorem zV_67 : zi_gV zi_M 10 67 2007 3 := zi_mkV zm_2007 (Or.inl (zi_t4 (j := 232) rfl rfl)) (zi_t4 (j := 234) rfl rfl) (zi_s2 (j := 13) rfl) (Or.inl ⟨_, rfl, rfl⟩)
theorem zV_68 : zi_gV zi_M 10 73 2005 3 := zi_mkV zm_2005 (Or.inl (zi_t4 (j := 228) rfl rfl)) (zi_t4 (j := 230) rfl rfl) (zi_s2 (j := 12) rfl) (Or.inl ⟨_, rfl, rfl⟩)
theorem zV_69 : zi_gV zi_M 11 97 1602 1 := zi_mkV zm_1602 (Or.inl (zi_t2 (j := 133) rfl rfl)) (zi_t2 (j := 134) rfl rfl) (zi_t2 (j := 135) rfl rfl) (Or.inl ⟨_, rfl, rfl⟩)
theorem zV_70 : zi_gV zi_M 11 101 1601 0 := zi_mkV zm_1601 (Or.inl (zi_t2 (j := 137) rfl rfl)) (zi_t2 (j := 138) rfl rfl) (zi_t2 (j := 139) rfl rfl) (Or.inl ⟨_, rfl, rfl⟩)
theorem zV_71 : zi_gV zi_M 11 105 1603 1 := zi_mkV zm_1603 (Or.inl (zi_t2 (j := 145) rfl rfl)) (zi_t2 (j := 146) rfl rfl) (zi_t2 (j := 147) rfl rfl) (Or.inl ⟨_, rfl, rfl⟩)
theorem zV_72 : zi_gV zi_M 11 108 2212 2 := zi_mkV zm_2212 (Or.inl (zi_t2 (j := 153) rfl rfl)) (zi_t2 (j := 155) rfl rfl) (zi_s1 (j := 0) rfl) (Or.inl ⟨_, rfl, rfl⟩)
theorem zV_73 : zi_gV zi_M 11 116 1401 1 := zi_mkV zm_1401 (Or.inl (zi_t3 (j := 6) rfl rfl)) (zi_t3 (j := 7) rfl rfl) (zi_t3 (j := 8) rfl rfl) (Or.inl ⟨_, rfl, rfl⟩)
theorem zV_74 : zi_gV zi_M 11 122 1604 0 := zi_mkV zm_1604 (Or.inl (zi_t2 (j := 222) rfl rfl)) (zi_t2 (j := 223) rfl rfl) (zi_t2 (j := 224) rfl rfl) (Or.inl ⟨_, rfl, rfl⟩)
theorem zV_75 : zi_gV zi_M 11 125 1 1 := zi_mkV zm_1 (Or.inl (zi_t4 (j := 105) rfl rfl)) (zi_t3 (j := 208) rfl rfl) (zi_t3 (j := 209) rfl rfl) (Or.inl ⟨_, rfl, rfl⟩)
theorem zV_76 : zi_gV zi_M 11 137 602 1 := zi_mkV zm_602 (Or.inl (zi_t4 (j := 216) rfl rfl)) (zi_t4 (j := 8) rfl rfl) (zi_t4 (j := 9) rfl rfl) (Or.inl ⟨_, rfl, rfl⟩)
theorem zV_77 : zi_gV zi_M 11 141 3 1 := zi_mkV zm_3 (Or.inl (zi_t3 (j := 165) rfl rfl)) (zi_t3 (j := 166) rfl rfl) (zi_t3 (j := 167) rfl rfl) (Or.inl ⟨_, rfl, rfl⟩)
theorem zV_78 : zi_gV zi_M 11 156 604 1 := zi_mkV zm_604 (Or.inl (zi_t3 (j := 186) rfl rfl)) (zi_t3 (j := 187) rfl rfl) (zi_t3 (j := 188) rfl rfl) (Or.inl ⟨_, rfl, rfl⟩)
theorem zV_79 : zi_gV zi_M 11 162 4 1 := zi_mkV zm_4 (Or.inl (zi_t3 (j := 161) rfl rfl)) (zi_t3 (j := 162) rfl rfl) (zi_t3 (j := 163) rfl rfl) (Or.inl ⟨_, rfl, rfl⟩)
theorem zV_80 : zi_gV zi_M 11 174 15 2 := zi_mkV zm_15 (Or.inl (zi_t4 (j := 107) rfl rfl)) (zi_t3 (j := 229) rfl rfl) (zi_t3 (j := 230) rfl rfl) (Or.inl ⟨_, rfl, rfl⟩)
theorem zV_81 : zi_gV zi_M 11 186 13 4 := zi_mkV zm_13 (Or.inl (zi_t3 (j := 139) rfl rfl)) (zi_t3 (j := 140) rfl rfl) (zi_t3 (j := 141) rfl rfl) (Or.inl ⟨_, rfl, rfl⟩)
theorem zV_82 : zi_gV zi_M 11 190 1605 1 := zi_mkV zm_1605 (Or.inl (zi_t2 (j := 157) rfl rfl)) (zi_t2 (j := 158) rfl rfl) (zi_t2 (j := 159) rfl rfl) (Or.inl ⟨_, rfl, rfl⟩)
theorem zV_83 : zi_gV zi_M 11 194 1608 0 := zi_mkV zm_1608 (Or.inl (zi_t2 (j := 164) rfl rfl)) (zi_t2 (j := 165) rfl rfl) (zi_t2 (j := 166) rfl rfl) (Or.inl ⟨_, rfl, rfl⟩)
theorem zV_84 : zi_gV zi_M 11 198 2213 1 := zi_mkV zm_2213 (Or.inl (zi_t2 (j := 168) rfl rfl)) (zi_t2 (j := 170) rfl rfl) (zi_s1 (j := 1) rfl) (Or.inl ⟨_, rfl, rfl⟩)
theorem zV_85 : zi_gV zi_M 11 201 7 2 := zi_mkV zm_7 (Or.inl (zi_t2 (j := 226) rfl rfl)) (zi_t2 (j := 227) rfl rfl) (zi_t2 (j := 228) rfl rfl) (Or.inl ⟨_, rfl, rfl⟩)
theorem zV_86 : zi_gV zi_M 11 205 1202 0 := zi_mkV zm_1202 (Or.inl (zi_t2 (j := 230) rfl rfl)) (zi_t2 (j := 231) rfl rfl) (zi_t2 (j := 232) rfl rfl) (Or.inl ⟨_, rfl, rfl⟩)
theorem zV_87 : zi_gV zi_M 11 209 5 1 := zi_mkV zm_5 (Or.inl (zi_t2 (j := 172) rfl rfl)) (zi_t2 (j := 173) rfl rfl) (zi_t2 (j := 174) rfl rfl) (Or.inl ⟨_, rfl, rfl⟩)
theorem zV_88 : zi_gV zi_M 11 212 6 1 := zi_mkV zm_6 (Or.inl (zi_t2 (j := 176) rfl rfl)) (zi_t2 (j := 177) rfl rfl) (zi_t2 (j := 178) rfl rfl) (Or.inl ⟨_, rfl, rfl⟩)
theorem zV_89 : zi_gV zi_M 11 215 8 4 := zi_mkV zm_8 (Or.inl (zi_t2 (j := 180) rfl rfl)) (zi_t2 (j := 181) rfl rfl) (zi_t2 (j := 182) rfl rfl) (Or.inl ⟨_, rfl, rfl⟩)
theorem zV_90 : zi_gV zi_M 11 219 1609 0 := zi_mkV zm_1609 (Or.inl (zi_t2 (j := 217) rfl rfl)) (zi_t2 (j := 218) rfl rfl) (zi_t2 (j := 219) rfl rfl) (Or.inl ⟨_, rfl, rfl⟩)
theorem zV_91 : zi_gV zi_M 11 222 1610 2 := zi_mkV zm_1610 (Or.inl (zi_t2 (j := 221) rfl rfl)) (zi_t2 (j := 189) rfl rfl) (zi_t2 (j := 190) rfl rfl) (Or.inl ⟨_, rfl, rfl⟩)
theorem zV_92 : zi_gV zi_M 11 225 601 1 := zi_mkV zm_601 (Or.inl (zi_t3 (j := 152) rfl rfl)) (zi_t3 (j := 153) rfl rfl) (zi_t3 (j := 154) rfl rfl) (Or.inl ⟨_, rfl, rfl⟩)
theorem zV_93 : zi_gV zi_M 11 229 2221 2 := zi_mkV zm_2221 (Or.inl (zi_t3 (j := 157) rfl rfl)) (zi_t3 (j := 159) rfl rfl) (zi_s1 (j := 12) rfl) (Or.inl ⟨_, rfl, rfl⟩)
theorem zV_94 : zi_gV zi_M 11 232 2220 1 := zi_mkV zm_2220 (Or.inl (zi_t3 (j := 169) rfl rfl)) (zi_t3 (j := 171) rfl rfl) (zi_s1 (j := 13) rfl) (Or.inl ⟨_, rfl, rfl⟩)
theorem zV_95 : zi_gV zi_M 11 235 2222 1 := zi_mkV zm_2222 (Or.inl (zi_t3 (j := 182) rfl rfl)) (zi_t3 (j := 184) rfl rfl) (zi_s1 (j := 14) rfl) (Or.inl ⟨_, rfl, rfl⟩)
theorem zV_96 : zi_gV zi_M 11 238 1805 3 := zi_mkV zm_1805 (Or.inl (zi_t3 (j := 194) rfl rfl)) (zi_t3 (j := 195) rfl rfl) (zi_t3 (j := 196) rfl rfl) (Or.inl ⟨_, rfl, rfl⟩)
theorem zV_97 : zi_gV zi_M 11 242 2234 0 := zi_mkV zm_2234 (Or.inl (zi_t4 (j := 42) rfl rfl)) (zi_t4 (j := 44) rfl rfl) (zi_s2 (j := 3) rfl) (Or.inl ⟨_, rfl, rfl⟩)
theorem zV_98 : zi_gV zi_M 11 245 2223 1 := zi_mkV zm_2223 (Or.inl (zi_t4 (j := 58) rfl rfl)) (zi_t4 (j := 60) rfl rfl) (zi_s2 (j := 4) rfl) (Or.inl ⟨_, rfl, rfl⟩)
theorem zV_99 : zi_gV zi_M 11 248 2224 0 := zi_mkV zm_2224 (Or.inl (zi_t4 (j := 71) rfl rfl)) (zi_t4 (j := 73) rfl rfl) (zi_s2 (j := 5) rfl) (Or.inl ⟨_, rfl, rfl⟩)
theorem zV_100 : zi_gV zi_M 11 251 2227 1 := zi_mkV zm_2227 (Or.inl (zi_t4 (j := 82) rfl rfl)) (zi_t4 (j := 84) rfl rfl) (zi_s2 (j := 7) rfl) (Or.inl ⟨_, rfl, rfl⟩)
theorem zV_101 : zi_gV zi_M 11 257 1203 1 := zi_mkV zm_1203 (Or.inl (zi_t3 (j := 173) rfl rfl)) (zi_t3 (j := 174) rfl rfl) (zi_t3 (j := 175) rfl rfl) (Or.inl ⟨_, rfl, rfl⟩)
theorem zV_102 : zi_gV zi_M 11 260 1003 0 := zi_mkV zm_1003 (Or.inl (zi_t4 (j := 46) rfl rfl)) (zi_t4 (j := 47) rfl rfl) (zi_t4 (j := 48) rfl rfl) (Or.inl ⟨_, rfl, rfl⟩)
theorem zV_103 : zi_gV zi_M 11 261 1004 1 := zi_mkV zm_1004 (Or.inl (zi_t4 (j := 50) rfl rfl)) (zi_t4 (j := 51) rfl rfl) (zi_t4 (j := 52) rfl rfl) (Or.inl ⟨_, rfl, rfl⟩)
theorem zV_104 : zi_gV zi_M 11 264 1204 1 := zi_mkV zm_1204 (Or.inl (zi_t4 (j := 93) rfl rfl)) (zi_t4 (j := 94) rfl rfl) (zi_t4 (j := 95) rfl rfl) (Or.inl ⟨_, rfl, rfl⟩)
theorem zV_105 : zi_gV zi_M 11 268 1201 0 := zi_mkV zm_1201 (Or.inl (zi_t4 (j := 97) rfl rfl)) (zi_t4 (j := 98) rfl rfl) (zi_t4 (j := 99) rfl rfl) (Or.inl ⟨_, rfl, rfl⟩)
theorem zV_106 : zi_gV zi_M 11 274 605 1 := zi_mkV zm_605 (Or.inl (zi_t4 (j := 62) rfl rfl)) (zi_t4 (j := 63) rfl rfl) (zi_t4 (j := 64) rfl rfl) (Or.inl ⟨_, rfl, rfl⟩)
theorem zV_107 : zi_gV zi_M 11 280 2225 0 := zi_mkV zm_2225 (Or.inl (zi_t4 (j := 75) rfl rfl)) (zi_t4 (j := 77) rfl rfl) (zi_s2 (j := 6) rfl) (Or.inl ⟨_, rfl, rfl⟩)
theorem zV_108 : zi_gV zi_M 11 283 1606 0 := zi_mkV zm_1606 (Or.inl (zi_t4 (j := 79) rfl rfl)) (zi_t2 (j := 193) rfl rfl) (zi_t2 (j := 194) rfl rfl) (Or.inl ⟨_, rfl, rfl⟩)
theorem zV_109 : zi_gV zi_M 11 286 1607 0 := zi_mkV zm_1607 (Or.inl (zi_t4 (j := 80) rfl rfl)) (zi_t2 (j := 197) rfl rfl) (zi_t2 (j := 198) rfl rfl) (Or.inl ⟨_, rfl, rfl⟩)
theorem zV_110 : zi_gV zi_M 11 289 1611 1 := zi_mkV zm_1611 (Or.inl (zi_t4 (j := 81) rfl rfl)) (zi_t2 (j := 209) rfl rfl) (zi_t2 (j := 210) rfl rfl) (Or.inl ⟨_, rfl, rfl⟩)
theorem zV_111 : zi_gV zi_M 11 292 201 3 := zi_mkV zm_201 (Or.inl (zi_t4 (j := 106) rfl rfl)) (zi_t3 (j := 212) rfl rfl) (zi_t3 (j := 213) rfl rfl) (Or.inl ⟨_, rfl, rfl⟩)
theorem zV_112 : zi_gV zi_M 11 296 204 1 := zi_mkV zm_204 (Or.inl (zi_t4 (j := 108) rfl rfl)) (zi_t3 (j := 233) rfl rfl) (zi_t3 (j := 234) rfl rfl) (Or.inl ⟨_, rfl, rfl⟩)
theorem zV_113 : zi_gV zi_M 11 299 206 1 := zi_mkV zm_206 (Or.inl (zi_t4 (j := 113) rfl rfl)) (zi_t4 (j := 114) rfl rfl) (zi_t4 (j := 115) rfl rfl) (Or.inl ⟨_, rfl, rfl⟩)
theorem zV_114 : zi_gV zi_M 11 302 1005 1 := zi_mkV zm_1005 (Or.inl (zi_t4 (j := 117) rfl rfl)) (zi_t4 (j := 118) rfl rfl) (zi_t4 (j := 119) rfl rfl) (Or.inl ⟨_, rfl, rfl⟩)
theorem zV_115 : zi_gV zi_M 11 310 207 1 := zi_mkV zm_207 (Or.inl (zi_t4 (j := 128) rfl rfl)) (zi_t4 (j := 129) rfl rfl) (zi_t4 (j := 130) rfl rfl) (Or.inl ⟨_, rfl, rfl⟩)
theorem zV_116 : zi_gV zi_M 11 313 2233 3 := zi_mkV zm_2233 (Or.inl (zi_t4 (j := 136) rfl rfl)) (zi_t4 (j := 138) rfl rfl) (zi_s2 (j := 8) rfl) (Or.inl ⟨_, rfl, rfl⟩)
theorem zV_117 : zi_gV zi_M 11 317 16 2 := zi_mkV zm_16 (Or.inl (zi_t4 (j := 144) rfl rfl)) (zi_t4 (j := 145) rfl rfl) (zi_t4 (j := 146) rfl rfl) (Or.inl ⟨_, rfl, rfl⟩)
theorem zV_118 : zi_gV zi_M 11 320 401 0 := zi_mkV zm_401 (Or.inl (zi_t4 (j := 148) rfl rfl)) (zi_t4 (j := 149) rfl rfl) (zi_t4 (j := 150) rfl rfl) (Or.inl ⟨_, rfl, rfl⟩)
theorem zV_119 : zi_gV zi_M 11 323 402 4 := zi_mkV zm_402 (Or.inl (zi_t4 (j := 152) rfl rfl)) (zi_t4 (j := 153) rfl rfl) (zi_t4 (j := 154) rfl rfl) (Or.inl ⟨_, rfl, rfl⟩)
theorem zV_120 : zi_gV zi_M 11 327 403 1 := zi_mkV zm_403 (Or.inl (zi_t4 (j := 158) rfl rfl)) (zi_t4 (j := 159) rfl rfl) (zi_t4 (j := 160) rfl rfl) (Or.inl ⟨_, rfl, rfl⟩)
theorem zV_121 : zi_gV zi_M 11 330 2235 1 := zi_mkV zm_2235 (Or.inl (zi_t4 (j := 171) rfl rfl)) (zi_t4 (j := 173) rfl rfl) (zi_s2 (j := 10) rfl) (Or.inl ⟨_, rfl, rfl⟩)
theorem zV_122 : zi_gV zi_M 11 336 18 1 := zi_mkV zm_18 (Or.inl (zi_t4 (j := 175) rfl rfl)) (zi_t4 (j := 167) rfl rfl) (zi_t4 (j := 168) rfl rfl) (Or.inl ⟨_, rfl, rfl⟩)
theorem zV_123 : zi_gV zi_M 11 339 2 1 := zi_mkV zm_2 (Or.inl (zi_t4 (j := 180) rfl rfl)) (zi_t4 (j := 181) rfl rfl) (zi_t4 (j := 182) rfl rfl) (Or.inl ⟨_, rfl, rfl⟩)
theorem zV_124 : zi_gV zi_M 11 342 1807 3 := zi_mkV zm_1807 (Or.inl (zi_t4 (j := 184) rfl rfl)) (zi_t4 (j := 185) rfl rfl) (zi_t4 (j := 186) rfl rfl) (Or.inl ⟨_, rfl, rfl⟩)
theorem zV_125 : zi_gV zi_M 11 348 1801 3 := zi_mkV zm_1801 (Or.inl (zi_t4 (j := 193) rfl rfl)) (zi_t4 (j := 189) rfl rfl) (zi_t4 (j := 190) rfl rfl) (Or.inl ⟨_, rfl, rfl⟩)
theorem zV_126 : zi_gV zi_M 11 351 1802 3 := zi_mkV zm_1802 (Or.inl (zi_t4 (j := 194) rfl rfl)) (zi_t3 (j := 204) rfl rfl) (zi_t3 (j := 205) rfl rfl) (Or.inl ⟨_, rfl, rfl⟩)
theorem zV_127 : zi_gV zi_M 11 354 17 2 := zi_mkV zm_17 (Or.inl (zi_t4 (j := 195) rfl rfl)) (zi_t4 (j := 20) rfl rfl) (zi_t4 (j := 21) rfl rfl) (Or.inl ⟨_, rfl, rfl⟩)
theorem zV_128 : zi_gV zi_M 11 357 2001 1 := zi_mkV zm_2001 (Or.inl (zi_t4 (j := 208) rfl rfl)) (zi_t4 (j := 209) rfl rfl) (zi_t4 (j := 210) rfl rfl) (Or.inl ⟨_, rfl, rfl⟩)
theorem zV_129 : zi_gV zi_M 11 358 2002 2 := zi_mkV zm_2002 (Or.inl (zi_t4 (j := 217) rfl rfl)) (zi_t4 (j := 218) rfl rfl) (zi_t4 (j := 219) rfl rfl) (Or.inl ⟨_, rfl, rfl⟩)
theorem zV_130 : zi_gV zi_M 11 362 1808 1 := zi_mkV zm_1808 (Or.inl (zi_t5 (j := 15) rfl rfl)) (zi_t5 (j := 16) rfl rfl) (zi_t5 (j := 17) rfl rfl) (Or.inl ⟨_, rfl, rfl⟩)
theorem zV_131 : zi_gV zi_M 11 365 1810 1 := zi_mkV zm_1810 (Or.inl (zi_t5 (j := 27) rfl rfl)) (zi_t5 (j := 28) rfl rfl) (zi_t5 (j := 29) rfl rfl) (Or.inl ⟨_, rfl, rfl⟩)
theorem zV_132 : zi_gV zi_M 11 368 803 2 := zi_mkV zm_803 (Or.inl (zi_t5 (j := 35) rfl rfl)) (zi_t5 (j := 36) rfl rfl) (zi_t5 (j := 37) rfl rfl) (Or.inl ⟨_, rfl, rfl⟩)
theorem zV_133 : zi_gV zi_M 11 372 801 0 := zi_mkV zm_801 (Or.inl (zi_t5 (j := 39) rfl rfl)) (zi_t5 (j := 40) rfl rfl) (zi_t5 (j := 41) rfl rfl) (Or.inl ⟨_, rfl, rfl⟩)
theorem zV_134 : zi_gV zi_M 11 373 802 0 := zi_mkV zm_802 (Or.inl (zi_t5 (j := 47) rfl rfl)) (zi_t5 (j := 48) rfl rfl) (zi_t5 (j := 49) rfl rfl) (Or.inl ⟨_, rfl, rfl⟩)
theorem zV_135 : zi_gV zi_M 11 374 805 0 := zi_mkV zm_805 (Or.inl (zi_t5 (j := 55) rfl rfl)) (zi_t5 (j := 56) rfl rfl) (zi_t5 (j := 57) rfl rfl) (Or.inl ⟨_, rfl, rfl⟩)
theorem zV_136 : zi_gV zi_M 11 377 806 2 := zi_mkV zm_806 (Or.inl (zi_t5 (j := 63) rfl rfl)) (zi_t5 (j := 64) rfl rfl) (zi_t5 (j := 65) rfl rfl) (Or.inl ⟨_, rfl, rfl⟩)
theorem zV_137 : zi_gV zi_M 11 380 807 0 := zi_mkV zm_807 (Or.inl (zi_t5 (j := 76) rfl rfl)) (zi_t5 (j := 77) rfl rfl) (zi_t5 (j := 78) rfl rfl) (Or.inl ⟨_, rfl, rfl⟩)
theorem zV_138 : zi_gV zi_M 11 402 2250 3 := zi_mkV zm_2250 (Or.inl (zi_t5 (j := 126) rfl rfl)) (zi_t5 (j := 128) rfl rfl) (zi_s3 (j := 7) rfl) (Or.inl ⟨_, rfl, rfl⟩)
theorem zV_139 : zi_gV zi_M 11 428 1001 0 := zi_mkV zm_1001 (Or.inl (zi_t5 (j := 155) rfl rfl)) (zi_t5 (j := 156) rfl rfl) (zi_t5 (j := 157) rfl rfl) (Or.inl ⟨_, rfl, rfl⟩)
theorem zV_140 : zi_gV zi_M 11 429 1002 1 := zi_mkV zm_1002 (Or.inl (zi_t6 (j := 9) rfl rfl)) (zi_t6 (j := 10) rfl rfl) (zi_t6 (j := 11) rfl rfl) (Or.inl ⟨_, rfl, rfl⟩)
theorem zV_141 : zi_gV zi_M 12 156 3000 0 := zi_mkV zm_3000 (Or.inl (zi_t7 (j := 41) rfl rfl)) (zi_t3 (j := 56) rfl rfl) (zi_t3 (j := 57) rfl rfl) (Or.inr rfl)
theorem zV_142 : zi_gV zi_M 12 162 3001 1 := zi_mkV zm_3001 (Or.inl (zi_t7 (j := 42) rfl rfl)) (zi_t7 (j := 43) rfl rfl) (zi_t7 (j := 44) rfl rfl) (Or.inr rfl)
theorem zV_143 : zi_gV zi_M 12 166 2422 1 := zi_mkV zm_2422 (Or.inl (zi_t7 (j := 37) rfl rfl)) (zi_t7 (j := 39) rfl rfl) (zi_s4 (j := 8) rfl) (Or.inl ⟨_, rfl, rfl⟩)
theorem zV_144 : zi_gV zi_M 12 170 2421 0 := zi_mkV zm_2421 (Or.inl (zi_t6 (j := 230) rfl rfl)) (zi_t6 (j := 232) rfl rfl) (zi_s4 (j := 0) rfl) (Or.inl ⟨_, rfl, rfl⟩)
theorem zV_145 : zi_gV zi_M 12 177 2425 3 := zi_mkV zm_2425 (Or.inl (zi_t6 (j := 211) rfl rfl)) (zi_t6 (j := 213) rfl rfl) (zi_s3 (j := 12) rfl) (Or.inl ⟨_, rfl, rfl⟩)
theorem zV_146 : zi_gV zi_M 12 181 2420 1 := zi_mkV zm_2420 (Or.inl (zi_t6 (j := 219) rfl rfl)) (zi_t6 (j := 221) rfl rfl) (zi_s3 (j := 14) rfl) (Or.inl ⟨_, rfl, rfl⟩)
theorem zV_147 : zi_gV zi_M 12 185 2424 1 := zi_mkV zm_2424 (Or.inl (zi_t6 (j := 226) rfl rfl)) (zi_t6 (j := 228) rfl rfl) (zi_s3 (j := 15) rfl) (Or.inl ⟨_, rfl, rfl⟩)
theorem zV_148 : zi_gV zi_M 12 189 2419 1 := zi_mkV zm_2419 (Or.inl (zi_t6 (j := 202) rfl rfl)) (zi_t6 (j := 204) rfl rfl) (zi_s3 (j := 10) rfl) (Or.inl ⟨_, rfl, rfl⟩)
theorem zV_149 : zi_gV zi_M 12 192 2427 0 := zi_mkV zm_2427 (Or.inl (zi_t6 (j := 207) rfl rfl)) (zi_t6 (j := 209) rfl rfl) (zi_s3 (j := 11) rfl) (Or.inl ⟨_, rfl, rfl⟩)
theorem zV_150 : zi_gV zi_M 12 195 2428 0 := zi_mkV zm_2428 (Or.inl (zi_t6 (j := 215) rfl rfl)) (zi_t6 (j := 217) rfl rfl) (zi_s3 (j := 13) rfl) (Or.inl ⟨_, rfl, rfl⟩)
theorem zV_151 : zi_gV zi_M 12 198 2429 0 := zi_mkV zm_2429 (Or.inl (zi_t6 (j := 236) rfl rfl)) (zi_t6 (j := 238) rfl rfl) (zi_s4 (j := 1) rfl) (Or.inl ⟨_, rfl, rfl⟩)
theorem zV_152 : zi_gV zi_M 12 201 2426 3 := zi_mkV zm_2426 (Or.inl (zi_t7 (j := 0) rfl rfl)) (zi_t7 (j := 2) rfl rfl) (zi_s4 (j := 2) rfl) (Or.inl ⟨_, rfl, rfl⟩)
theorem zV_153 : zi_gV zi_M 12 211 2430 2 := zi_mkV zm_2430 (Or.inl (zi_t6 (j := 198) rfl rfl)) (zi_t6 (j := 200) rfl rfl) (zi_s3 (j := 9) rfl) (Or.inl ⟨_, rfl, rfl⟩)
theorem zV_154 : zi_gV zi_M 12 214 2431 0 := zi_mkV zm_2431 (Or.inl (zi_t7 (j := 4) rfl rfl)) (zi_t7 (j := 6) rfl rfl) (zi_s4 (j := 3) rfl) (Or.inl ⟨_, rfl, rfl⟩)
theorem zV_155 : zi_gV zi_M 12 220 2436 0 := zi_mkV zm_2436 (Or.inl (zi_t7 (j := 24) rfl rfl)) (zi_t7 (j := 26) rfl rfl) (zi_s4 (j := 5) rfl) (Or.inl ⟨_, rfl, rfl⟩)
theorem zV_156 : zi_gV zi_M 12 223 2435 1 := zi_mkV zm_2435 (Or.inl (zi_t7 (j := 28) rfl rfl)) (zi_t7 (j := 30) rfl rfl) (zi_s4 (j := 6) rfl) (Or.inl ⟨_, rfl, rfl⟩)
theorem zV_157 : zi_gV zi_M 12 229 2423 1 := zi_mkV zm_2423 (Or.inl (zi_t7 (j := 33) rfl rfl)) (zi_t7 (j := 35) rfl rfl) (zi_s4 (j := 7) rfl) (Or.inl ⟨_, rfl, rfl⟩)
theorem zV_158 : zi_gV zi_M 12 232 2437 1 := zi_mkV zm_2437 (Or.inl (zi_t7 (j := 20) rfl rfl)) (zi_t7 (j := 22) rfl rfl) (zi_s4 (j := 4) rfl) (Or.inl ⟨_, rfl, rfl⟩)
theorem zV_159 : zi_gV zi_M 12 257 2415 2 := zi_mkV zm_2415 (Or.inl (zi_t7 (j := 108) rfl rfl)) (zi_t7 (j := 110) rfl rfl) (zi_s4 (j := 14) rfl) (Or.inl ⟨_, rfl, rfl⟩)
theorem zV_160 : zi_gV zi_M 12 260 2441 2 := zi_mkV zm_2441 (Or.inl (zi_t7 (j := 193) rfl rfl)) (zi_t7 (j := 195) rfl rfl) (zi_s5 (j := 11) rfl) (Or.inl ⟨_, rfl, rfl⟩)
theorem zV_161 : zi_gV zi_M 12 268 2440 0 := zi_mkV zm_2440 (Or.inl (zi_t7 (j := 198) rfl rfl)) (zi_t7 (j := 200) rfl rfl) (zi_s5 (j := 12) rfl) (Or.inl ⟨_, rfl, rfl⟩)
theorem zV_162 : zi_gV zi_M 12 274 2445 4 := zi_mkV zm_2445 (Or.inl (zi_t7 (j := 175) rfl rfl)) (zi_t7 (j := 177) rfl rfl) (zi_s5 (j := 8) rfl) (Or.inl ⟨_, rfl, rfl⟩)
theorem zV_163 : zi_gV zi_M 12 278 2444 3 := zi_mkV zm_2444 (Or.inl (zi_t7 (j := 182) rfl rfl)) (zi_t7 (j := 184) rfl rfl) (zi_s5 (j := 9) rfl) (Or.inl ⟨_, rfl, rfl⟩)
theorem zV_164 : zi_gV zi_M 12 282 2443 2 := zi_mkV zm_2443 (Or.inl (zi_t7 (j := 171) rfl rfl)) (zi_t7 (j := 173) rfl rfl) (zi_s5 (j := 7) rfl) (Or.inl ⟨_, rfl, rfl⟩)
theorem zV_165 : zi_gV zi_M 12 286 2407 1 := zi_mkV zm_2407 (Or.inl (zi_t7 (j := 209) rfl rfl)) (zi_t7 (j := 211) rfl rfl) (zi_s5 (j := 14) rfl) (Or.inl ⟨_, rfl, rfl⟩)
theorem zV_166 : zi_gV zi_M 12 290 2408 1 := zi_mkV zm_2408 (Or.inl (zi_t7 (j := 69) rfl rfl)) (zi_t7 (j := 71) rfl rfl) (zi_s4 (j := 9) rfl) (Or.inl ⟨_, rfl, rfl⟩)
theorem zV_167 : zi_gV zi_M 12 295 2402 0 := zi_mkV zm_2402 (Or.inl (zi_t7 (j := 74) rfl rfl)) (zi_t7 (j := 76) rfl rfl) (zi_s4 (j := 10) rfl) (Or.inl ⟨_, rfl, rfl⟩)
theorem zV_168 : zi_gV zi_M 12 298 2409 1 := zi_mkV zm_2409 (Or.inl (zi_t7 (j := 82) rfl rfl)) (zi_t7 (j := 84) rfl rfl) (zi_s4 (j := 11) rfl) (Or.inl ⟨_, rfl, rfl⟩)
theorem zV_169 : zi_gV zi_M 12 301 2416 1 := zi_mkV zm_2416 (Or.inl (zi_t7 (j := 89) rfl rfl)) (zi_t7 (j := 91) rfl rfl) (zi_s4 (j := 12) rfl) (Or.inl ⟨_, rfl, rfl⟩)
theorem zV_170 : zi_gV zi_M 12 304 2410 1 := zi_mkV zm_2410 (Or.inl (zi_t7 (j := 103) rfl rfl)) (zi_t7 (j := 105) rfl rfl) (zi_s4 (j := 13) rfl) (Or.inl ⟨_, rfl, rfl⟩)
theorem zV_171 : zi_gV zi_M 12 313 2454 1 := zi_mkV zm_2454 (Or.inl (zi_t7 (j := 143) rfl rfl)) (zi_t7 (j := 145) rfl rfl) (zi_s5 (j := 2) rfl) (Or.inl ⟨_, rfl, rfl⟩)
theorem zV_172 : zi_gV zi_M 12 316 2446 3 := zi_mkV zm_2446 (Or.inl (zi_t7 (j := 167) rfl rfl)) (zi_t7 (j := 169) rfl rfl) (zi_s5 (j := 6) rfl) (Or.inl ⟨_, rfl, rfl⟩)
theorem zV_173 : zi_gV zi_M 12 322 2460 3 := zi_mkV zm_2460 (Or.inl (zi_t7 (j := 163) rfl rfl)) (zi_t7 (j := 165) rfl rfl) (zi_s5 (j := 5) rfl) (Or.inl ⟨_, rfl, rfl⟩)
theorem zV_174 : zi_gV zi_M 12 326 2442 4 := zi_mkV zm_2442 (Or.inl (zi_t7 (j := 189) rfl rfl)) (zi_t7 (j := 191) rfl rfl) (zi_s5 (j := 10) rfl) (Or.inl ⟨_, rfl, rfl⟩)
theorem zV_175 : zi_gV zi_M 12 330 2453 0 := zi_mkV zm_2453 (Or.inl (zi_t7 (j := 131) rfl rfl)) (zi_t7 (j := 133) rfl rfl) (zi_s4 (j := 15) rfl) (Or.inl ⟨_, rfl, rfl⟩)
theorem zV_176 : zi_gV zi_M 12 333 2457 3 := zi_mkV zm_2457 (Or.inl (zi_t7 (j := 135) rfl rfl)) (zi_t7 (j := 137) rfl rfl) (zi_s5 (j := 0) rfl) (Or.inl ⟨_, rfl, rfl⟩)
theorem zV_177 : zi_gV zi_M 12 336 2455 1 := zi_mkV zm_2455 (Or.inl (zi_t7 (j := 139) rfl rfl)) (zi_t7 (j := 141) rfl rfl) (zi_s5 (j := 1) rfl) (Or.inl ⟨_, rfl, rfl⟩)
theorem zV_178 : zi_gV zi_M 12 339 2458 2 := zi_mkV zm_2458 (Or.inl (zi_t7 (j := 151) rfl rfl)) (zi_t7 (j := 153) rfl rfl) (zi_s5 (j := 3) rfl) (Or.inl ⟨_, rfl, rfl⟩)
theorem zV_179 : zi_gV zi_M 12 342 2461 3 := zi_mkV zm_2461 (Or.inl (zi_t7 (j := 159) rfl rfl)) (zi_t7 (j := 161) rfl rfl) (zi_s5 (j := 4) rfl) (Or.inl ⟨_, rfl, rfl⟩)
theorem zV_180 : zi_gV zi_M 12 345 2447 0 := zi_mkV zm_2447 (Or.inl (zi_t7 (j := 205) rfl rfl)) (zi_t7 (j := 207) rfl rfl) (zi_s5 (j := 13) rfl) (Or.inl ⟨_, rfl, rfl⟩)
theorem zV_181 : zi_gV zi_M 12 350 2462 2 := zi_mkV zm_2462 (Or.inl (zi_t7 (j := 218) rfl rfl)) (zi_t7 (j := 220) rfl rfl) (zi_s5 (j := 15) rfl) (Or.inl ⟨_, rfl, rfl⟩)
theorem zV_182 : zi_gV zi_M 12 362 2467 0 := zi_mkV zm_2467 (Or.inl (zi_t7 (j := 226) rfl rfl)) (zi_t7 (j := 228) rfl rfl) (zi_s6 (j := 0) rfl) (Or.inl ⟨_, rfl, rfl⟩)
theorem zV_183 : zi_gV zi_M 12 365 2468 1 := zi_mkV zm_2468 (Or.inl (zi_t7 (j := 231) rfl rfl)) (zi_t7 (j := 233) rfl rfl) (zi_s6 (j := 1) rfl) (Or.inl ⟨_, rfl, rfl⟩)
theorem zV_184 : zi_gV zi_M 12 368 2470 2 := zi_mkV zm_2470 (Or.inl (zi_t7 (j := 239) rfl rfl)) (zi_t8 (j := 1) rfl rfl) (zi_s6 (j := 2) rfl) (Or.inl ⟨_, rfl, rfl⟩)
theorem zV_185 : zi_gV zi_M 12 373 2474 3 := zi_mkV zm_2474 (Or.inl (zi_t8 (j := 15) rfl rfl)) (zi_t8 (j := 17) rfl rfl) (zi_s6 (j := 3) rfl) (Or.inl ⟨_, rfl, rfl⟩)
theorem zV_186 : zi_gV zi_M 12 377 2476 1 := zi_mkV zm_2476 (Or.inl (zi_t8 (j := 36) rfl rfl)) (zi_t8 (j := 38) rfl rfl) (zi_s6 (j := 7) rfl) (Or.inl ⟨_, rfl, rfl⟩)
theorem zV_187 : zi_gV zi_M 12 380 2477 2 := zi_mkV zm_2477 (Or.inl (zi_t8 (j := 32) rfl rfl)) (zi_t8 (j := 34) rfl rfl) (zi_s6 (j := 6) rfl) (Or.inl ⟨_, rfl, rfl⟩)
theorem zV_188 : zi_gV zi_M 12 383 2479 1 := zi_mkV zm_2479 (Or.inl (zi_t8 (j := 24) rfl rfl)) (zi_t8 (j := 26) rfl rfl) (zi_s6 (j := 4) rfl) (Or.inl ⟨_, rfl, rfl⟩)
theorem zV_189 : zi_gV zi_M 12 386 2478 3 := zi_mkV zm_2478 (Or.inl (zi_t8 (j := 28) rfl rfl)) (zi_t8 (j := 30) rfl rfl) (zi_s6 (j := 5) rfl) (Or.inl ⟨_, rfl, rfl⟩)
theorem zV_190 : zi_gV zi_M 12 395 2411 1 := zi_mkV zm_2411 (Or.inl (zi_t8 (j := 44) rfl rfl)) (zi_t8 (j := 46) rfl rfl) (zi_s6 (j := 8) rfl) (Or.inl ⟨_, rfl, rfl⟩)
theorem zV_191 : zi_gV zi_M 12 398 2481 0 := zi_mkV zm_2481 (Or.inl (zi_t8 (j := 48) rfl rfl)) (zi_t8 (j := 50) rfl rfl) (zi_s6 (j := 9) rfl) (Or.inl ⟨_, rfl, rfl⟩)
theorem zV_192 : zi_gV zi_M 12 401 2482 2 := zi_mkV zm_2482 (Or.inl (zi_t8 (j := 52) rfl rfl)) (zi_t8 (j := 54) rfl rfl) (zi_s6 (j := 10) rfl) (Or.inl ⟨_, rfl, rfl⟩)
theorem zV_193 : zi_gV zi_M 12 404 2484 3 := zi_mkV zm_2484 (Or.inl (zi_t8 (j := 60) rfl rfl)) (zi_t8 (j := 62) rfl rfl) (zi_s6 (j := 11) rfl) (Or.inl ⟨_, rfl, rfl⟩)
theorem zV_194 : zi_gV zi_M 12 420 2489 4 := zi_mkV zm_2489 (Or.inl (zi_t8 (j := 77) rfl rfl)) (zi_t8 (j := 79) rfl rfl) (zi_s6 (j := 13) rfl) (Or.inl ⟨_, rfl, rfl⟩)
theorem zV_195 : zi_gV zi_M 12 426 2490 0 := zi_mkV zm_2490 (Or.inl (zi_t8 (j := 73) rfl rfl)) (zi_t8 (j := 75) rfl rfl) (zi_s6 (j := 12) rfl) (Or.inl ⟨_, rfl, rfl⟩)
theorem zV_196 : zi_gV zi_M 12 429 2492 0 := zi_mkV zm_2492 (Or.inl (zi_t8 (j := 92) rfl rfl)) (zi_t8 (j := 94) rfl rfl) (zi_s6 (j := 14) rfl) (Or.inl ⟨_, rfl, rfl⟩)
theorem zV_197 : zi_gV zi_M 12 435 2496 1 := zi_mkV zm_2496 (Or.inl (zi_t8 (j := 112) rfl rfl)) (zi_t8 (j := 114) rfl rfl) (zi_s7 (j := 0) rfl) (Or.inl ⟨_, rfl, rfl⟩)
theorem zV_198 : zi_gV zi_M 12 438 2497 0 := zi_mkV zm_2497 (Or.inl (zi_t8 (j := 108) rfl rfl)) (zi_t8 (j := 110) rfl rfl) (zi_s6 (j := 15) rfl) (Or.inl ⟨_, rfl, rfl⟩)
theorem zV_199 : zi_gV zi_M 12 441 2500 2 := zi_mkV zm_2500 (Or.inl (zi_t8 (j := 128) rfl rfl)) (zi_t8 (j := 130) rfl rfl) (zi_s7 (j := 2) rfl) (Or.inl ⟨_, rfl, rfl⟩)
theorem zV_200 : zi_gV zi_M 12 444 2501 4 := zi_mkV zm_2501 (Or.inl (zi_t8 (j := 124) rfl rfl)) (zi_t8 (j := 126) rfl rfl) (zi_s7 (j := 1) rfl) (Or.inl ⟨_, rfl, rfl⟩)
theorem zV_201 : zi_gV zi_M 12 460 2503 2 := zi_mkV zm_2503 (Or.inl (zi_t8 (j := 138) rfl rfl)) (zi_t8 (j := 140) rfl rfl) (zi_s7 (j := 3) rfl) (Or.inl ⟨_, rfl, rfl⟩)
theorem zV_202 : zi_gV zi_M 12 478 2513 0 := zi_mkV zm_2513 (Or.inl (zi_t8 (j := 185) rfl rfl)) (zi_t8 (j := 187) rfl rfl) (zi_s7 (j := 4) rfl) (Or.inl ⟨_, rfl, rfl⟩)
theorem zV_203 : zi_gV zi_M 15 335 3004 0 := zi_mkV zm_3004 (Or.inl (zi_t3 (j := 59) rfl rfl)) (zi_t3 (j := 60) rfl rfl) (zi_t3 (j := 61) rfl rfl) (Or.inr rfl)
theorem zV_204 : zi_gV zi_M 15 492 3005 0 := zi_mkV zm_3005 (Or.inl (zi_t3 (j := 49) rfl rfl)) (zi_t3 (j := 50) rfl rfl) (zi_t3 (j := 51) rfl rfl) (Or.inr rfl)
theorem zV_205 : zi_gV zi_M 15 505 3000 0 := zi_mkV zm_3000 (Or.inl (zi_t3 (j := 55) rfl rfl)) (zi_t3 (j := 56) rfl rfl) (zi_t3 (j := 57) rfl rfl) (Or.inr rfl)
theorem zV_206 : zi_gV zi_M 15 633 3003 2 := zi_mkV zm_3003 (Or.inl (zi_t3 (j := 45) rfl rfl)) (zi_t3 (j := 46) rfl rfl) (zi_t3 (j := 47) rfl rfl) (Or.inr rfl)
set_option maxRecDepth 100000 in
theorem zi_VT_ok : ∀ q ∈ zi_VT, zi_gV zi_M q.1 q.2.1 q.2.2.1 q.2.2.2 := List.forall_mem_cons.mpr ⟨zV_0, List.forall_mem_cons.mpr ⟨zV_1, List.forall_mem_cons.mpr ⟨zV_2, List.forall_mem_cons.mpr ⟨zV_3, List.forall_mem_cons.mpr ⟨zV_4, List.forall_mem_cons.mpr ⟨zV_5, List.forall_mem_cons.mpr ⟨zV_6, List.forall_mem_cons.mpr ⟨zV_7, List.forall_mem_cons.mpr ⟨zV_8, List.forall_mem_cons.mpr ⟨zV_9, List.forall_mem_cons.mpr ⟨zV_10, List.forall_mem_cons.mpr ⟨zV_11, List.forall_mem_cons.mpr ⟨zV_12, List.forall_mem_cons.mpr ⟨zV_13, List.forall_mem_cons.mpr ⟨zV_14, List.forall_mem_cons.mpr ⟨zV_15, List.forall_mem_cons.mpr ⟨zV_16, List.forall_mem_cons.mpr ⟨zV_17, List.forall_mem_cons.mpr ⟨zV_18, List.forall_mem_cons.mpr ⟨zV_19, List.forall_mem_cons.mpr ⟨zV_20, List.forall_mem_cons.mpr ⟨zV_21, List.forall_mem_cons.mpr ⟨zV_22, List.forall_mem_cons.mpr ⟨zV_23, List.forall_mem_cons.mpr ⟨zV_24, List.forall_mem_cons.mpr ⟨zV_25, List.forall_mem_cons.mpr ⟨zV_26, List.forall_mem_cons.mpr ⟨zV_27, List.forall_mem_cons.mpr ⟨zV_28, List.forall_mem_cons.mpr ⟨zV_29, List.forall_mem_cons.mpr ⟨zV_30, List.forall_mem_cons.mpr ⟨zV_31, List.forall_mem_cons.mpr ⟨zV_32, List.forall_mem_cons.mpr ⟨zV_33, List.forall_mem_cons.mpr ⟨zV_34, List.forall_mem_cons.mpr ⟨zV_35, List.forall_mem_cons.mpr ⟨zV_36, List.forall_mem_cons.mpr ⟨zV_37, List.forall_mem_cons.mpr ⟨zV_38, List.forall_mem_cons.mpr ⟨zV_39, List.forall_mem_cons.mpr ⟨zV_40, List.forall_mem_cons.mpr ⟨zV_41, List.forall_mem_cons.mpr ⟨zV_42, List.forall_mem_cons.mpr ⟨zV_43, List.forall_mem_cons.mpr ⟨zV_44, List.forall_mem_cons.mpr ⟨zV_45, List.forall_mem_cons.mpr ⟨zV_46, List.forall_mem_cons.mpr ⟨zV_47, List.forall_mem_cons.mpr ⟨zV_48, List.forall_mem_cons.mpr ⟨zV_49, List.forall_mem_cons.mpr ⟨zV_50, List.forall_mem_cons.mpr ⟨zV_51, List.forall_mem_cons.mpr ⟨zV_52, List.forall_mem_cons.mpr ⟨zV_53, List.forall_mem_cons.mpr ⟨zV_54, List.forall_mem_cons.mpr ⟨zV_55, List.forall_mem_cons.mpr ⟨zV_56, List.forall_mem_cons.mpr ⟨zV_57, List.forall_mem_cons.mpr ⟨zV_58, List.forall_mem_cons.mpr ⟨zV_59, List.forall_mem_cons.mpr ⟨zV_60, List.forall_mem_cons.mpr ⟨zV_61, List.forall_mem_cons.mpr ⟨zV_62, List.forall_mem_cons.mpr ⟨zV_63, List.forall_mem_cons.mpr ⟨zV_64, List.forall_mem_cons.mpr ⟨zV_65, List.forall_mem_cons.mpr ⟨zV_66, List.forall_mem_cons.mpr ⟨zV_67, List.forall_mem_cons.mpr ⟨zV_68, List.forall_mem_cons.mpr ⟨zV_69, List.forall_mem_cons.mpr ⟨zV_70, List.forall_mem_cons.mpr ⟨zV_71, List.forall_mem_cons.mpr ⟨zV_72, List.forall_mem_cons.mpr ⟨zV_73, List.forall_mem_cons.mpr ⟨zV_74, List.forall_mem_cons.mpr ⟨zV_75, List.forall_mem_cons.mpr ⟨zV_76, List.forall_mem_cons.mpr ⟨zV_77, List.forall_mem_cons.mpr ⟨zV_78, List.forall_mem_cons.mpr ⟨zV_79, List.forall_mem_cons.mpr ⟨zV_80, List.forall_mem_cons.mpr ⟨zV_81, List.forall_mem_cons.mpr ⟨zV_82, List.forall_mem_cons.mpr ⟨zV_83, List.forall_mem_cons.mpr ⟨zV_84, List.forall_mem_cons.mpr ⟨zV_85, List.forall_mem_cons.mpr ⟨zV_86, List.forall_mem_cons.mpr ⟨zV_87, List.forall_mem_cons.mpr ⟨zV_88, List.forall_mem_cons.mpr ⟨zV_89, List.forall_mem_cons.mpr ⟨zV_90, List.forall_mem_cons.mpr ⟨zV_91, List.forall_mem_cons.mpr ⟨zV_92, List.forall_mem_cons.mpr ⟨zV_93, List.forall_mem_cons.mpr ⟨zV_94, List.forall_mem_cons.mpr ⟨zV_95, List.forall_mem_cons.mpr ⟨zV_96, List.forall_mem_cons.mpr ⟨zV_97, List.forall_mem_cons.mpr ⟨zV_98, List.forall_mem_cons.mpr ⟨zV_99, List.forall_mem_cons.mpr ⟨zV_100, List.forall_mem_cons.mpr ⟨zV_101, List.forall_mem_cons.mpr ⟨zV_102, List.forall_mem_cons.mpr ⟨zV_103, List.forall_mem_cons.mpr ⟨zV_104, List.forall_mem_cons.mpr ⟨zV_105, List.forall_mem_cons.mpr ⟨zV_106, List.forall_mem_cons.mpr ⟨zV_107, List.forall_mem_cons.mpr ⟨zV_108, List.forall_mem_cons.mpr ⟨zV_109, List.forall_mem_cons.mpr ⟨zV_110, List.forall_mem_cons.mpr ⟨zV_111, List.forall_mem_cons.mpr ⟨zV_112, List.forall_mem_cons.mpr ⟨zV_113, List.forall_mem_cons.mpr ⟨zV_114, List.forall_mem_cons.mpr ⟨zV_115, List.forall_mem_cons.mpr ⟨zV_116, List.forall_mem_cons.mpr ⟨zV_117, List.forall_mem_cons.mpr ⟨zV_118, List.forall_mem_cons.mpr ⟨zV_119, List.forall_mem_cons.mpr ⟨zV_120, List.forall_mem_cons.mpr ⟨zV_121, List.forall_mem_cons.mpr ⟨zV_122, List.forall_mem_cons.mpr ⟨zV_123, List.forall_mem_cons.mpr ⟨zV_124, List.forall_mem_cons.mpr ⟨zV_125, List.forall_mem_cons.mpr ⟨zV_126, List.forall_mem_cons.mpr ⟨zV_127, List.forall_mem_cons.mpr ⟨zV_128, List.forall_mem_cons.mpr ⟨zV_129, List.forall_mem_cons.mpr ⟨zV_130, List.forall_mem_cons.mpr ⟨zV_131, List.forall_mem_cons.mpr ⟨zV_132, List.forall_mem_cons.mpr ⟨zV_133, List.forall_mem_cons.mpr ⟨zV_134, List.forall_mem_cons.mpr ⟨zV_135, List.forall_mem_cons.mpr ⟨zV_136, List.forall_mem_cons.mpr ⟨zV_137, List.forall_mem_cons.mpr ⟨zV_138, List.forall_mem_cons.mpr ⟨zV_139, List.forall_mem_cons.mpr ⟨zV_140, List.forall_mem_cons.mpr ⟨zV_141, List.forall_mem_cons.mpr ⟨zV_142, List.forall_mem_cons.mpr ⟨zV_143, List.forall_mem_cons.mpr ⟨zV_144, List.forall_mem_cons.mpr ⟨zV_145, List.forall_mem_cons.mpr ⟨zV_146, List.forall_mem_cons.mpr ⟨zV_147, List.forall_mem_cons.mpr ⟨zV_148, List.forall_mem_cons.mpr ⟨zV_149, List.forall_mem_cons.mpr ⟨zV_150, List.forall_mem_cons.mpr ⟨zV_151, List.forall_mem_cons.mpr ⟨zV_152, List.forall_mem_cons.mpr ⟨zV_153, List.forall_mem_cons.mpr ⟨zV_154, List.forall_mem_cons.mpr ⟨zV_155, List.forall_mem_cons.mpr ⟨zV_156, List.forall_mem_cons.mpr ⟨zV_157, List.forall_mem_cons.mpr ⟨zV_158, List.forall_mem_cons.mpr ⟨zV_159, List.forall_mem_cons.mpr ⟨zV_160, List.forall_mem_cons.mpr ⟨zV_161, List.forall_mem_cons.mpr ⟨zV_162, List.forall_mem_cons.mpr ⟨zV_163, List.forall_mem_cons.mpr ⟨zV_164, List.forall_mem_cons.mpr ⟨zV_165, List.forall_mem_cons.mpr ⟨zV_166, List.forall_mem_cons.mpr ⟨zV_167, List.forall_mem_cons.mpr ⟨zV_168, List.forall_mem_cons.mpr ⟨zV_169, List.forall_mem_cons.mpr ⟨zV_170, List.forall_mem_cons.mpr ⟨zV_171, List.forall_mem_cons.mpr ⟨zV_172, List.forall_mem_cons.mpr ⟨zV_173, List.forall_mem_cons.mpr ⟨zV_174, List.forall_mem_cons.mpr ⟨zV_175, List.forall_mem_cons.mpr ⟨zV_176, List.forall_mem_cons.mpr ⟨zV_177, List.forall_mem_cons.mpr ⟨zV_178, List.forall_mem_cons.mpr ⟨zV_179, List.forall_mem_cons.mpr ⟨zV_180, List.forall_mem_cons.mpr ⟨zV_181, List.forall_mem_cons.mpr ⟨zV_182, List.forall_mem_cons.mpr ⟨zV_183, List.forall_mem_cons.mpr ⟨zV_184, List.forall_mem_cons.mpr ⟨zV_185, List.forall_mem_cons.mpr ⟨zV_186, List.forall_mem_cons.mpr ⟨zV_187, List.forall_mem_cons.mpr ⟨zV_188, List.forall_mem_cons.mpr ⟨zV_189, List.forall_mem_cons.mpr ⟨zV_190, List.forall_mem_cons.mpr ⟨zV_191, List.forall_mem_cons.mpr ⟨zV_192, List.forall_mem_cons.mpr ⟨zV_193, List.forall_mem_cons.mpr ⟨zV_194, List.forall_mem_cons.mpr ⟨zV_195, List.forall_mem_cons.mpr ⟨zV_196, List.forall_mem_cons.mpr ⟨zV_197, List.forall_mem_cons.mpr ⟨zV_198, List.forall_mem_cons.mpr ⟨zV_199, List.forall_mem_cons.mpr ⟨zV_200, List.forall_mem_cons.mpr ⟨zV_201, List.forall_mem_cons.mpr ⟨zV_202, List.forall_mem_cons.mpr ⟨zV_203, List.forall_mem_cons.mpr ⟨zV_204, List.forall_mem_cons.mpr ⟨zV_205, List.forall_mem_cons.mpr ⟨zV_206, fun _ h => absurd h List.not_mem_nil⟩⟩⟩⟩⟩⟩⟩⟩⟩⟩⟩⟩⟩⟩⟩⟩⟩⟩⟩⟩⟩⟩⟩⟩⟩⟩⟩⟩⟩⟩⟩⟩⟩⟩⟩⟩⟩⟩⟩⟩⟩⟩⟩⟩⟩⟩⟩⟩⟩⟩⟩⟩⟩⟩⟩⟩⟩⟩⟩⟩⟩⟩⟩⟩⟩⟩⟩⟩⟩⟩⟩⟩⟩⟩⟩⟩⟩⟩⟩⟩⟩⟩⟩⟩⟩⟩⟩⟩⟩⟩⟩⟩⟩⟩⟩⟩⟩⟩⟩⟩⟩⟩⟩⟩⟩⟩⟩⟩⟩⟩⟩⟩⟩⟩⟩⟩⟩⟩⟩⟩⟩⟩⟩⟩⟩⟩⟩⟩⟩⟩⟩⟩⟩⟩⟩⟩⟩⟩⟩⟩⟩⟩⟩⟩⟩⟩⟩⟩⟩⟩⟩⟩⟩⟩⟩⟩⟩⟩⟩⟩⟩⟩⟩⟩⟩⟩⟩⟩⟩⟩⟩⟩⟩⟩⟩⟩⟩⟩⟩⟩⟩⟩⟩⟩⟩⟩⟩⟩⟩⟩⟩⟩⟩⟩⟩⟩⟩⟩⟩⟩⟩⟩⟩⟩⟩⟩⟩
theorem zI_0 : zi_gI zi_M 0 11 1400 0 := zi_mkI zm_1400 (Or.inr ⟨_, (zi_n1 (j := 76) rfl rfl)⟩) (zi_t1 (j := 77) rfl rfl) ⟨rfl, rfl⟩
theorem zI_1 : zi_gI zi_M 6 15 600 0 := zi_mkI zm_600 (Or.inr ⟨_, (zi_n2 (j := 72) rfl rfl)⟩) (zi_t1 (j := 154) rfl rfl) ⟨rfl, rfl⟩
theorem zI_2 : zi_gI zi_M 11 9 1600 0 := zi_mkI zm_1600 (Or.inr ⟨_, (zi_n1 (j := 36) rfl rfl)⟩) (zi_t1 (j := 37) rfl rfl) ⟨rfl, rfl⟩
theorem zI_3 : zi_gI zi_M 11 18 1000 0 := zi_mkI zm_1000 (Or.inr ⟨_, (zi_n1 (j := 56) rfl rfl)⟩) (zi_t1 (j := 57) rfl rfl) ⟨rfl, rfl⟩
theorem zI_4 : zi_gI zi_M 11 25 0 0 := zi_mkI zm_0 (Or.inr ⟨_, (zi_n1 (j := 70) rfl rfl)⟩) (zi_t1 (j := 71) rfl rfl) ⟨rfl, rfl⟩
theorem zI_5 : zi_gI zi_M 11 32 600 0 := zi_mkI zm_600 (Or.inr ⟨_, (zi_n1 (j := 153) rfl rfl)⟩) (zi_t1 (j := 154) rfl rfl) ⟨rfl, rfl⟩
theorem zI_6 : zi_gI zi_M 11 45 200 1 := zi_mkI zm_200 (Or.inl (zi_t1 (j := 201) rfl rfl)) (zi_t1 (j := 202) rfl rfl) ⟨rfl, rfl⟩
theorem zI_7 : zi_gI zi_M 11 54 1800 2 := zi_mkI zm_1800 (Or.inl (zi_t1 (j := 219) rfl rfl)) (zi_t1 (j := 220) rfl rfl) ⟨rfl, rfl⟩
theorem zI_8 : zi_gI zi_M 11 63 400 2 := zi_mkI zm_400 (Or.inl (zi_t2 (j := 2) rfl rfl)) (zi_t2 (j := 3) rfl rfl) ⟨rfl, rfl⟩
theorem zI_9 : zi_gI zi_M 11 70 800 1 := zi_mkI zm_800 (Or.inl (zi_t2 (j := 19) rfl rfl)) (zi_t2 (j := 20) rfl rfl) ⟨rfl, rfl⟩
theorem zI_10 : zi_gI zi_M 11 77 2000 0 := zi_mkI zm_2000 (Or.inr ⟨_, (zi_n2 (j := 44) rfl rfl)⟩) (zi_t2 (j := 45) rfl rfl) ⟨rfl, rfl⟩
theorem zI_11 : zi_gI zi_M 11 84 1200 0 := zi_mkI zm_1200 (Or.inl (zi_t2 (j := 66) rfl rfl)) (zi_t2 (j := 67) rfl rfl) ⟨rfl, rfl⟩
set_option maxRecDepth 100000 in
theorem zi_IT_ok : ∀ q ∈ zi_IT, zi_gI zi_M q.1 q.2.1 q.2.2.1 q.2.2.2 := List.forall_mem_cons.mpr ⟨zI_0, List.forall_mem_cons.mpr ⟨zI_1, List.forall_mem_cons.mpr ⟨zI_2, List.forall_mem_cons.mpr ⟨zI_3, List.forall_mem_cons.mpr ⟨zI_4, List.forall_mem_cons.mpr ⟨zI_5, List.forall_mem_cons.mpr ⟨zI_6, List.forall_mem_cons.mpr ⟨zI_7, List.forall_mem_cons.mpr ⟨zI_8, List.forall_mem_cons.mpr ⟨zI_9, List.forall_mem_cons.mpr ⟨zI_10, List.forall_mem_cons.mpr ⟨zI_11, fun _ h => absurd h List.not_mem_nil⟩⟩⟩⟩⟩⟩⟩⟩⟩⟩⟩⟩
theorem zS_0 : zi_gS zi_M 0 89 14 2 := zi_mkS zm_14 (Or.inl (zi_t3 (j := 143) rfl rfl)) (zi_t3 (j := 144) rfl rfl)
theorem zS_1 : zi_gS zi_M 1 27 202 1 := zi_mkS zm_202 (Or.inl (zi_t3 (j := 215) rfl rfl)) (zi_t3 (j := 216) rfl rfl)
theorem zS_2 : zi_gS zi_M 1 35 2800 1 := zi_mkS zm_2800 (Or.inl (zi_t3 (j := 218) rfl rfl)) (zi_t3 (j := 219) rfl rfl)
theorem zS_3 : zi_gS zi_M 2 42 2800 1 := zi_mkS zm_2800 (Or.inl (zi_t4 (j := 170) rfl rfl)) (zi_t3 (j := 219) rfl rfl)
theorem zS_4 : zi_gS zi_M 7 103 1411 3 := zi_mkS zm_1411 (Or.inl (zi_t4 (j := 32) rfl rfl)) (zi_t4 (j := 33) rfl rfl)
theorem zS_5 : zi_gS zi_M 9 61 1804 3 := zi_mkS zm_1804 (Or.inl (zi_t4 (j := 4) rfl rfl)) (zi_t4 (j := 5) rfl rfl)
theorem zS_6 : zi_gS zi_M 9 112 2800 1 := zi_mkS zm_2800 (Or.inl (zi_t4 (j := 23) rfl rfl)) (zi_t3 (j := 219) rfl rfl)
theorem zS_7 : zi_gS zi_M 10 70 2009 3 := zi_mkS zm_2009 (Or.inl (zi_t4 (j := 225) rfl rfl)) (zi_t4 (j := 226) rfl rfl)
theorem zS_8 : zi_gS zi_M 11 254 2226 1 := zi_mkS zm_2226 (Or.inl (zi_t4 (j := 86) rfl rfl)) (zi_t4 (j := 87) rfl rfl)
theorem zS_9 : zi_gS zi_M 11 305 2800 1 := zi_mkS zm_2800 (Or.inl (zi_t4 (j := 123) rfl rfl)) (zi_t3 (j := 219) rfl rfl)
theorem zS_10 : zi_gS zi_M 11 383 2251 2 := zi_mkS zm_2251 (Or.inl (zi_t5 (j := 101) rfl rfl)) (zi_t5 (j := 102) rfl rfl)
theorem zS_11 : zi_gS zi_M 11 389 2252 2 := zi_mkS zm_2252 (Or.inl (zi_t5 (j := 104) rfl rfl)) (zi_t5 (j := 105) rfl rfl)
theorem zS_12 : zi_gS zi_M 11 393 2253 2 := zi_mkS zm_2253 (Or.inl (zi_t5 (j := 108) rfl rfl)) (zi_t5 (j := 109) rfl rfl)
theorem zS_13 : zi_gS zi_M 11 399 2254 3 := zi_mkS zm_2254 (Or.inl (zi_t5 (j := 120) rfl rfl)) (zi_t5 (j := 121) rfl rfl)
theorem zS_14 : zi_gS zi_M 11 414 2255 3 := zi_mkS zm_2255 (Or.inl (zi_t5 (j := 123) rfl rfl)) (zi_t5 (j := 124) rfl rfl)
theorem zS_15 : zi_gS zi_M 11 421 2257 1 := zi_mkS zm_2257 (Or.inl (zi_t5 (j := 139) rfl rfl)) (zi_t5 (j := 140) rfl rfl)
theorem zS_16 : zi_gS zi_M 12 103 2406 2 := zi_mkS zm_2406 (Or.inl (zi_t8 (j := 143) rfl rfl)) (zi_t8 (j := 144) rfl rfl)
theorem zS_17 : zi_gS zi_M 12 113 2403 3 := zi_mkS zm_2403 (Or.inl (zi_t6 (j := 191) rfl rfl)) (zi_t6 (j := 192) rfl rfl)
theorem zS_18 : zi_gS zi_M 12 123 2413 2 := zi_mkS zm_2413 (Or.inl (zi_t7 (j := 93) rfl rfl)) (zi_t7 (j := 94) rfl rfl)
theorem zS_19 : zi_gS zi_M 12 127 2412 2 := zi_mkS zm_2412 (Or.inl (zi_t7 (j := 96) rfl rfl)) (zi_t7 (j := 97) rfl rfl)
theorem zS_20 : zi_gS zi_M 12 148 2405 1 := zi_mkS zm_2405 (Or.inl (zi_t6 (j := 223) rfl rfl)) (zi_t6 (j := 224) rfl rfl)
theorem zS_21 : zi_gS zi_M 12 244 2439 3 := zi_mkS zm_2439 (Or.inl (zi_t7 (j := 202) rfl rfl)) (zi_t7 (j := 203) rfl rfl)
theorem zS_22 : zi_gS zi_M 12 250 2404 2 := zi_mkS zm_2404 (Or.inl (zi_t7 (j := 179) rfl rfl)) (zi_t7 (j := 180) rfl rfl)
theorem zS_23 : zi_gS zi_M 12 254 2414 2 := zi_mkS zm_2414 (Or.inl (zi_t7 (j := 86) rfl rfl)) (zi_t7 (j := 87) rfl rfl)
theorem zS_24 : zi_gS zi_M 12 263 2800 1 := zi_mkS zm_2800 (Or.inl (zi_t7 (j := 197) rfl rfl)) (zi_t3 (j := 219) rfl rfl)
theorem zS_25 : zi_gS zi_M 12 319 2459 2 := zi_mkS zm_2459 (Or.inl (zi_t7 (j := 186) rfl rfl)) (zi_t7 (j := 187) rfl rfl)
theorem zS_26 : zi_gS zi_M 12 414 2488 2 := zi_mkS zm_2488 (Or.inl (zi_t8 (j := 82) rfl rfl)) (zi_t8 (j := 83) rfl rfl)
theorem zS_27 : zi_gS zi_M 12 417 2487 3 := zi_mkS zm_2487 (Or.inl (zi_t8 (j := 85) rfl rfl)) (zi_t8 (j := 86) rfl rfl)
theorem zS_28 : zi_gS zi_M 12 465 2506 3 := zi_mkS zm_2506 (Or.inl (zi_t8 (j := 159) rfl rfl)) (zi_t8 (j := 160) rfl rfl)
theorem zS_29 : zi_gS zi_M 12 470 2507 3 := zi_mkS zm_2507 (Or.inl (zi_t8 (j := 156) rfl rfl)) (zi_t8 (j := 157) rfl rfl)
theorem zS_30 : zi_gS zi_M 15 495 3200 2 := zi_mkS zm_3200 (Or.inl (zi_t7 (j := 46) rfl rfl)) (zi_t7 (j := 47) rfl rfl)
theorem zS_31 : zi_gS zi_M 15 637 3202 4 := zi_mkS zm_3202 (Or.inl (zi_t3 (j := 63) rfl rfl)) (zi_t3 (j := 64) rfl rfl)
theorem zS_32 : zi_gS zi_M 16 88 3201 1 := zi_mkS zm_3201 (Or.inl (zi_t3 (j := 66) rfl rfl)) (zi_t3 (j := 67) rfl rfl)
theorem zS_33 : zi_gS zi_M 16 95 3203 4 := zi_mkS zm_3203 (Or.inl (zi_t3 (j := 73) rfl rfl)) (zi_t3 (j := 74) rfl rfl)
set_option maxRecDepth 100000 in
theorem zi_ST_ok : ∀ q ∈ zi_ST, zi_gS zi_M q.1 q.2.1 q.2.2.1 q.2.2.2 := List.forall_mem_cons.mpr ⟨zS_0, List.forall_mem_cons.mpr ⟨zS_1, List.forall_mem_cons.mpr ⟨zS_2, List.forall_mem_cons.mpr ⟨zS_3, List.forall_mem_cons.mpr ⟨zS_4, List.forall_mem_cons.mpr ⟨zS_5, List.forall_mem_cons.mpr ⟨zS_6, List.forall_mem_cons.mpr ⟨zS_7, List.forall_mem_cons.mpr ⟨zS_8, List.forall_mem_cons.mpr ⟨zS_9, List.forall_mem_cons.mpr ⟨zS_10, List.forall_mem_cons.mpr ⟨zS_11, List.forall_mem_cons.mpr ⟨zS_12, List.forall_mem_cons.mpr ⟨zS_13, List.forall_mem_cons.mpr ⟨zS_14, List.forall_mem_cons.mpr ⟨zS_15, List.forall_mem_cons.mpr ⟨zS_16, List.forall_mem_cons.mpr ⟨zS_17, List.forall_mem_cons.mpr ⟨zS_18, List.forall_mem_cons.mpr ⟨zS_19, List.forall_mem_cons.mpr ⟨zS_20, List.forall_mem_cons.mpr ⟨zS_21, List.forall_mem_cons.mpr ⟨zS_22, List.forall_mem_cons.mpr ⟨zS_23, List.forall_mem_cons.mpr ⟨zS_24, List.forall_mem_cons.mpr ⟨zS_25, List.forall_mem_cons.mpr ⟨zS_26, List.forall_mem_cons.mpr ⟨zS_27, List.forall_mem_cons.mpr ⟨zS_28, List.forall_mem_cons.mpr ⟨zS_29, List.forall_mem_cons.mpr ⟨zS_30, List.forall_mem_cons.mpr ⟨zS_31, List.forall_mem_cons.mpr ⟨zS_32, List.forall_mem_cons.mpr ⟨zS_33, fun _ h => absurd h List.not_mem_nil⟩⟩⟩⟩⟩⟩⟩⟩⟩⟩⟩⟩⟩⟩⟩⟩⟩⟩⟩⟩⟩⟩⟩⟩⟩⟩⟩⟩⟩⟩⟩⟩⟩⟩
theorem zK_0 : Cond.constant (zi_cn 11) 182 (Int32.ofNat 67108864) ∈ zi_tb := (zi_t3 (j := 134) rfl rfl)
theorem zK_1 : Cond.constant (zi_cn 11) 424 (Int32.ofNat 1103515245) ∈ zi_tb := (zi_t5 (j := 142) rfl rfl)
theorem zK_2 : Cond.constant (zi_cn 12) 413 (Int32.ofNat 1000000) ∈ zi_tb := (zi_t8 (j := 81) rfl rfl)
theorem zK_3 : Cond.constant (zi_cn 12) 475 (Int32.ofNat 1103515245) ∈ zi_tb := (zi_t8 (j := 171) rfl rfl)
theorem zK_4 : Cond.constant (zi_cn 14) 265 (Int32.ofNat 1431655765) ∈ zi_tb := (zi_t3 (j := 221) rfl rfl)
theorem zK_5 : Cond.constant (zi_cn 14) 266 (Int32.ofNat 858993459) ∈ zi_tb := (zi_t3 (j := 222) rfl rfl)
theorem zK_6 : Cond.constant (zi_cn 14) 267 (Int32.ofNat 252645135) ∈ zi_tb := (zi_t3 (j := 223) rfl rfl)
set_option maxRecDepth 100000 in
theorem zi_KT_ok : ∀ q ∈ zi_KT, Cond.constant (zi_cn q.1) q.2.1 (Int32.ofNat q.2.2) ∈ zi_tb := List.forall_mem_cons.mpr ⟨zK_0, List.forall_mem_cons.mpr ⟨zK_1, List.forall_mem_cons.mpr ⟨zK_2, List.forall_mem_cons.mpr ⟨zK_3, List.forall_mem_cons.mpr ⟨zK_4, List.forall_mem_cons.mpr ⟨zK_5, List.forall_mem_cons.mpr ⟨zK_6, fun _ h => absurd h List.not_mem_nil⟩⟩⟩⟩⟩⟩⟩
theorem zL_0 : Cond.constantLong (zi_cn 11) 387 (Int64.ofNat 10000) ∈ zi_tb := (zi_t5 (j := 107) rfl rfl)
theorem zL_1 : Cond.constantLong (zi_cn 11) 397 (Int64.ofNat 100) ∈ zi_tb := (zi_t5 (j := 115) rfl rfl)
theorem zL_2 : Cond.constantLong (zi_cn 12) 152 (Int64.ofNat 48) ∈ zi_tb := (zi_t6 (j := 234) rfl rfl)
theorem zL_3 : Cond.constantLong (zi_cn 12) 154 (Int64.ofNat 57) ∈ zi_tb := (zi_t6 (j := 235) rfl rfl)
theorem zL_4 : Cond.constantLong (zi_cn 12) 293 (Int64.ofNat 5) ∈ zi_tb := (zi_t7 (j := 73) rfl rfl)
theorem zL_5 : Cond.constantLong (zi_cn 12) 307 (Int64.ofNat 3) ∈ zi_tb := (zi_t7 (j := 107) rfl rfl)
theorem zL_6 : Cond.constantLong (zi_cn 12) 309 (Int64.ofNat 999) ∈ zi_tb := (zi_t7 (j := 116) rfl rfl)
theorem zL_7 : Cond.constantLong (zi_cn 12) 311 (Int64.ofNat 67108863) ∈ zi_tb := (zi_t7 (j := 117) rfl rfl)
theorem zL_8 : Cond.constantLong (zi_cn 12) 348 (Int64.ofNat 600) ∈ zi_tb := (zi_t7 (j := 217) rfl rfl)
theorem zL_9 : Cond.constantLong (zi_cn 12) 371 (Int64.ofNat 25) ∈ zi_tb := (zi_t8 (j := 19) rfl rfl)
theorem zL_10 : Cond.constantLong (zi_cn 12) 451 (Int64.ofNat 10000) ∈ zi_tb := (zi_t8 (j := 142) rfl rfl)
theorem zL_11 : Cond.constantLong (zi_cn 12) 456 (Int64.ofNat 4) ∈ zi_tb := (zi_t8 (j := 136) rfl rfl)
theorem zL_12 : Cond.constantLong (zi_cn 12) 458 (Int64.ofNat 10) ∈ zi_tb := (zi_t8 (j := 137) rfl rfl)
theorem zL_13 : Cond.constantLong (zi_cn 12) 463 (Int64.ofNat 100) ∈ zi_tb := (zi_t8 (j := 150) rfl rfl)
theorem zL_14 : Cond.constantLong (zi_cn 12) 468 (Int64.ofNat 9) ∈ zi_tb := (zi_t8 (j := 155) rfl rfl)
theorem zL_15 : Cond.constantLong (zi_cn 12) 473 (Int64.ofNat 60) ∈ zi_tb := (zi_t8 (j := 170) rfl rfl)
theorem zL_16 : Cond.constantLong (zi_cn 12) 476 (Int64.ofNat 2) ∈ zi_tb := (zi_t8 (j := 176) rfl rfl)
set_option maxRecDepth 100000 in
theorem zi_LT_ok : ∀ q ∈ zi_LT, Cond.constantLong (zi_cn q.1) q.2.1 (Int64.ofNat q.2.2) ∈ zi_tb := List.forall_mem_cons.mpr ⟨zL_0, List.forall_mem_cons.mpr ⟨zL_1, List.forall_mem_cons.mpr ⟨zL_2, List.forall_mem_cons.mpr ⟨zL_3, List.forall_mem_cons.mpr ⟨zL_4, List.forall_mem_cons.mpr ⟨zL_5, List.forall_mem_cons.mpr ⟨zL_6, List.forall_mem_cons.mpr ⟨zL_7, List.forall_mem_cons.mpr ⟨zL_8, List.forall_mem_cons.mpr ⟨zL_9, List.forall_mem_cons.mpr ⟨zL_10, List.forall_mem_cons.mpr ⟨zL_11, List.forall_mem_cons.mpr ⟨zL_12, List.forall_mem_cons.mpr ⟨zL_13, List.forall_mem_cons.mpr ⟨zL_14, List.forall_mem_cons.mpr ⟨zL_15, List.forall_mem_cons.mpr ⟨zL_16, fun _ h => absurd h List.not_mem_nil⟩⟩⟩⟩⟩⟩⟩⟩⟩⟩⟩⟩⟩⟩⟩⟩⟩
theorem zN_0 : ∃ r : vw_C, vwCl[7]? = some r ∧ r.2.2 = zi_fn 7 ∧ Cond.classLink (zi_cn 0) 9 r.1 ∈ zi_tb ∧ Cond.instantiable r.1 r.2.2 ∈ zi_tb ∧ Cond.initialized r.1 ∈ zi_tb := ⟨_, rfl, rfl, (zi_t1 (j := 74) rfl rfl), (zi_t1 (j := 75) rfl rfl), (zi_t1 (j := 5) rfl rfl)⟩
theorem zN_1 : ∃ r : vw_C, vwCl[3]? = some r ∧ r.2.2 = zi_fn 3 ∧ Cond.classLink (zi_cn 6) 9 r.1 ∈ zi_tb ∧ Cond.instantiable r.1 r.2.2 ∈ zi_tb ∧ Cond.initialized r.1 ∈ zi_tb := ⟨_, rfl, rfl, (zi_t2 (j := 70) rfl rfl), (zi_t1 (j := 152) rfl rfl), (zi_t1 (j := 6) rfl rfl)⟩
theorem zN_2 : ∃ r : vw_C, vwCl[8]? = some r ∧ r.2.2 = zi_fn 8 ∧ Cond.classLink (zi_cn 11) 7 r.1 ∈ zi_tb ∧ Cond.instantiable r.1 r.2.2 ∈ zi_tb ∧ Cond.initialized r.1 ∈ zi_tb := ⟨_, rfl, rfl, (zi_t1 (j := 34) rfl rfl), (zi_t1 (j := 35) rfl rfl), (zi_t1 (j := 2) rfl rfl)⟩
theorem zN_3 : ∃ r : vw_C, vwCl[5]? = some r ∧ r.2.2 = zi_fn 5 ∧ Cond.classLink (zi_cn 11) 16 r.1 ∈ zi_tb ∧ Cond.instantiable r.1 r.2.2 ∈ zi_tb ∧ Cond.initialized r.1 ∈ zi_tb := ⟨_, rfl, rfl, (zi_t1 (j := 54) rfl rfl), (zi_t1 (j := 55) rfl rfl), (zi_t1 (j := 3) rfl rfl)⟩
theorem zN_4 : ∃ r : vw_C, vwCl[0]? = some r ∧ r.2.2 = zi_fn 0 ∧ Cond.classLink (zi_cn 11) 23 r.1 ∈ zi_tb ∧ Cond.instantiable r.1 r.2.2 ∈ zi_tb ∧ Cond.initialized r.1 ∈ zi_tb := ⟨_, rfl, rfl, (zi_t1 (j := 68) rfl rfl), (zi_t1 (j := 69) rfl rfl), (zi_t1 (j := 4) rfl rfl)⟩
theorem zN_5 : ∃ r : vw_C, vwCl[3]? = some r ∧ r.2.2 = zi_fn 3 ∧ Cond.classLink (zi_cn 11) 30 r.1 ∈ zi_tb ∧ Cond.instantiable r.1 r.2.2 ∈ zi_tb ∧ Cond.initialized r.1 ∈ zi_tb := ⟨_, rfl, rfl, (zi_t1 (j := 151) rfl rfl), (zi_t1 (j := 152) rfl rfl), (zi_t1 (j := 6) rfl rfl)⟩
theorem zN_6 : ∃ r : vw_C, vwCl[1]? = some r ∧ r.2.2 = zi_fn 1 ∧ Cond.classLink (zi_cn 11) 43 r.1 ∈ zi_tb ∧ Cond.instantiable r.1 r.2.2 ∈ zi_tb ∧ Cond.initialized r.1 ∈ zi_tb := ⟨_, rfl, rfl, (zi_t1 (j := 199) rfl rfl), (zi_t1 (j := 200) rfl rfl), (zi_t1 (j := 7) rfl rfl)⟩
theorem zN_7 : ∃ r : vw_C, vwCl[9]? = some r ∧ r.2.2 = zi_fn 9 ∧ Cond.classLink (zi_cn 11) 52 r.1 ∈ zi_tb ∧ Cond.instantiable r.1 r.2.2 ∈ zi_tb ∧ Cond.initialized r.1 ∈ zi_tb := ⟨_, rfl, rfl, (zi_t1 (j := 217) rfl rfl), (zi_t1 (j := 218) rfl rfl), (zi_t1 (j := 8) rfl rfl)⟩
theorem zN_8 : ∃ r : vw_C, vwCl[2]? = some r ∧ r.2.2 = zi_fn 2 ∧ Cond.classLink (zi_cn 11) 61 r.1 ∈ zi_tb ∧ Cond.instantiable r.1 r.2.2 ∈ zi_tb ∧ Cond.initialized r.1 ∈ zi_tb := ⟨_, rfl, rfl, (zi_t2 (j := 0) rfl rfl), (zi_t2 (j := 1) rfl rfl), (zi_t1 (j := 9) rfl rfl)⟩
theorem zN_9 : ∃ r : vw_C, vwCl[4]? = some r ∧ r.2.2 = zi_fn 4 ∧ Cond.classLink (zi_cn 11) 68 r.1 ∈ zi_tb ∧ Cond.instantiable r.1 r.2.2 ∈ zi_tb ∧ Cond.initialized r.1 ∈ zi_tb := ⟨_, rfl, rfl, (zi_t2 (j := 17) rfl rfl), (zi_t2 (j := 18) rfl rfl), (zi_t1 (j := 10) rfl rfl)⟩
theorem zN_10 : ∃ r : vw_C, vwCl[10]? = some r ∧ r.2.2 = zi_fn 10 ∧ Cond.classLink (zi_cn 11) 75 r.1 ∈ zi_tb ∧ Cond.instantiable r.1 r.2.2 ∈ zi_tb ∧ Cond.initialized r.1 ∈ zi_tb := ⟨_, rfl, rfl, (zi_t2 (j := 42) rfl rfl), (zi_t2 (j := 43) rfl rfl), (zi_t1 (j := 11) rfl rfl)⟩
theorem zN_11 : ∃ r : vw_C, vwCl[6]? = some r ∧ r.2.2 = zi_fn 6 ∧ Cond.classLink (zi_cn 11) 82 r.1 ∈ zi_tb ∧ Cond.instantiable r.1 r.2.2 ∈ zi_tb ∧ Cond.initialized r.1 ∈ zi_tb := ⟨_, rfl, rfl, (zi_t2 (j := 64) rfl rfl), (zi_t2 (j := 65) rfl rfl), (zi_t1 (j := 12) rfl rfl)⟩
set_option maxRecDepth 100000 in
theorem zi_NT_ok : ∀ q ∈ zi_NT, ∃ r : vw_C, vwCl[q.2.2]? = some r ∧ r.2.2 = zi_fn q.2.2 ∧ Cond.classLink (zi_cn q.1) q.2.1 r.1 ∈ zi_tb ∧ Cond.instantiable r.1 r.2.2 ∈ zi_tb ∧ Cond.initialized r.1 ∈ zi_tb := List.forall_mem_cons.mpr ⟨zN_0, List.forall_mem_cons.mpr ⟨zN_1, List.forall_mem_cons.mpr ⟨zN_2, List.forall_mem_cons.mpr ⟨zN_3, List.forall_mem_cons.mpr ⟨zN_4, List.forall_mem_cons.mpr ⟨zN_5, List.forall_mem_cons.mpr ⟨zN_6, List.forall_mem_cons.mpr ⟨zN_7, List.forall_mem_cons.mpr ⟨zN_8, List.forall_mem_cons.mpr ⟨zN_9, List.forall_mem_cons.mpr ⟨zN_10, List.forall_mem_cons.mpr ⟨zN_11, fun _ h => absurd h List.not_mem_nil⟩⟩⟩⟩⟩⟩⟩⟩⟩⟩⟩⟩
theorem zA_0 : Cond.classLink (zi_cn 6) 9 RX3 ∈ zi_tb ∧ Cond.arrayOver (.object RX3) ∈ zi_nw := ⟨(zi_t2 (j := 70) rfl rfl), (zi_n2 (j := 71) rfl rfl)⟩
theorem zA_1 : Cond.classLink (zi_cn 11) 30 RX3 ∈ zi_tb ∧ Cond.arrayOver (.object RX3) ∈ zi_nw := ⟨(zi_t1 (j := 151) rfl rfl), (zi_n2 (j := 71) rfl rfl)⟩
set_option maxRecDepth 100000 in
theorem zi_AT_ok : ∀ q ∈ zi_AT, Cond.classLink (zi_cn q.1) q.2 RX3 ∈ zi_tb ∧ Cond.arrayOver (.object RX3) ∈ zi_nw := List.forall_mem_cons.mpr ⟨zA_0, List.forall_mem_cons.mpr ⟨zA_1, fun _ h => absurd h List.not_mem_nil⟩⟩
theorem zO_0 : Cond.methodLink (zi_cn 0) 3 Lib.objectInit ∈ zi_tb ∧ Cond.instanceMethod Lib.objectInit ∈ zi_tb ∧ Cond.code Lib.objectInit ⟨#[0xb1]⟩ 1 none ∈ zi_tb := ⟨(zi_t1 (j := 73) rfl rfl), (zi_t1 (j := 32) rfl rfl), (zi_t1 (j := 33) rfl rfl)⟩
theorem zO_1 : Cond.methodLink (zi_cn 1) 3 Lib.objectInit ∈ zi_tb ∧ Cond.instanceMethod Lib.objectInit ∈ zi_tb ∧ Cond.code Lib.objectInit ⟨#[0xb1]⟩ 1 none ∈ zi_tb := ⟨(zi_t1 (j := 204) rfl rfl), (zi_t1 (j := 32) rfl rfl), (zi_t1 (j := 33) rfl rfl)⟩
theorem zO_2 : Cond.methodLink (zi_cn 2) 3 Lib.objectInit ∈ zi_tb ∧ Cond.instanceMethod Lib.objectInit ∈ zi_tb ∧ Cond.code Lib.objectInit ⟨#[0xb1]⟩ 1 none ∈ zi_tb := ⟨(zi_t2 (j := 5) rfl rfl), (zi_t1 (j := 32) rfl rfl), (zi_t1 (j := 33) rfl rfl)⟩
theorem zO_3 : Cond.methodLink (zi_cn 3) 3 Lib.objectInit ∈ zi_tb ∧ Cond.instanceMethod Lib.objectInit ∈ zi_tb ∧ Cond.code Lib.objectInit ⟨#[0xb1]⟩ 1 none ∈ zi_tb := ⟨(zi_t1 (j := 156) rfl rfl), (zi_t1 (j := 32) rfl rfl), (zi_t1 (j := 33) rfl rfl)⟩
theorem zO_4 : Cond.methodLink (zi_cn 4) 3 Lib.objectInit ∈ zi_tb ∧ Cond.instanceMethod Lib.objectInit ∈ zi_tb ∧ Cond.code Lib.objectInit ⟨#[0xb1]⟩ 1 none ∈ zi_tb := ⟨(zi_t2 (j := 22) rfl rfl), (zi_t1 (j := 32) rfl rfl), (zi_t1 (j := 33) rfl rfl)⟩
theorem zO_5 : Cond.methodLink (zi_cn 5) 1 Lib.objectInit ∈ zi_tb ∧ Cond.instanceMethod Lib.objectInit ∈ zi_tb ∧ Cond.code Lib.objectInit ⟨#[0xb1]⟩ 1 none ∈ zi_tb := ⟨(zi_t1 (j := 59) rfl rfl), (zi_t1 (j := 32) rfl rfl), (zi_t1 (j := 33) rfl rfl)⟩
theorem zO_6 : Cond.methodLink (zi_cn 6) 1 Lib.objectInit ∈ zi_tb ∧ Cond.instanceMethod Lib.objectInit ∈ zi_tb ∧ Cond.code Lib.objectInit ⟨#[0xb1]⟩ 1 none ∈ zi_tb := ⟨(zi_t2 (j := 69) rfl rfl), (zi_t1 (j := 32) rfl rfl), (zi_t1 (j := 33) rfl rfl)⟩
theorem zO_7 : Cond.methodLink (zi_cn 7) 3 Lib.objectInit ∈ zi_tb ∧ Cond.instanceMethod Lib.objectInit ∈ zi_tb ∧ Cond.code Lib.objectInit ⟨#[0xb1]⟩ 1 none ∈ zi_tb := ⟨(zi_t1 (j := 79) rfl rfl), (zi_t1 (j := 32) rfl rfl), (zi_t1 (j := 33) rfl rfl)⟩
theorem zO_8 : Cond.methodLink (zi_cn 8) 1 Lib.objectInit ∈ zi_tb ∧ Cond.instanceMethod Lib.objectInit ∈ zi_tb ∧ Cond.code Lib.objectInit ⟨#[0xb1]⟩ 1 none ∈ zi_tb := ⟨(zi_t1 (j := 39) rfl rfl), (zi_t1 (j := 32) rfl rfl), (zi_t1 (j := 33) rfl rfl)⟩
theorem zO_9 : Cond.methodLink (zi_cn 9) 3 Lib.objectInit ∈ zi_tb ∧ Cond.instanceMethod Lib.objectInit ∈ zi_tb ∧ Cond.code Lib.objectInit ⟨#[0xb1]⟩ 1 none ∈ zi_tb := ⟨(zi_t1 (j := 222) rfl rfl), (zi_t1 (j := 32) rfl rfl), (zi_t1 (j := 33) rfl rfl)⟩
theorem zO_10 : Cond.methodLink (zi_cn 10) 1 Lib.objectInit ∈ zi_tb ∧ Cond.instanceMethod Lib.objectInit ∈ zi_tb ∧ Cond.code Lib.objectInit ⟨#[0xb1]⟩ 1 none ∈ zi_tb := ⟨(zi_t2 (j := 47) rfl rfl), (zi_t1 (j := 32) rfl rfl), (zi_t1 (j := 33) rfl rfl)⟩
theorem zO_11 : Cond.methodLink (zi_cn 11) 1 Lib.objectInit ∈ zi_tb ∧ Cond.instanceMethod Lib.objectInit ∈ zi_tb ∧ Cond.code Lib.objectInit ⟨#[0xb1]⟩ 1 none ∈ zi_tb := ⟨(zi_t1 (j := 31) rfl rfl), (zi_t1 (j := 32) rfl rfl), (zi_t1 (j := 33) rfl rfl)⟩
theorem zO_12 : Cond.methodLink (zi_cn 12) 3 Lib.objectInit ∈ zi_tb ∧ Cond.instanceMethod Lib.objectInit ∈ zi_tb ∧ Cond.code Lib.objectInit ⟨#[0xb1]⟩ 1 none ∈ zi_tb := ⟨(zi_t6 (j := 18) rfl rfl), (zi_t1 (j := 32) rfl rfl), (zi_t1 (j := 33) rfl rfl)⟩
set_option maxRecDepth 100000 in
theorem zi_OT_ok : ∀ q ∈ zi_OT, Cond.methodLink (zi_cn q.1) q.2 Lib.objectInit ∈ zi_tb ∧ Cond.instanceMethod Lib.objectInit ∈ zi_tb ∧ Cond.code Lib.objectInit ⟨#[0xb1]⟩ 1 none ∈ zi_tb := List.forall_mem_cons.mpr ⟨zO_0, List.forall_mem_cons.mpr ⟨zO_1, List.forall_mem_cons.mpr ⟨zO_2, List.forall_mem_cons.mpr ⟨zO_3, List.forall_mem_cons.mpr ⟨zO_4, List.forall_mem_cons.mpr ⟨zO_5, List.forall_mem_cons.mpr ⟨zO_6, List.forall_mem_cons.mpr ⟨zO_7, List.forall_mem_cons.mpr ⟨zO_8, List.forall_mem_cons.mpr ⟨zO_9, List.forall_mem_cons.mpr ⟨zO_10, List.forall_mem_cons.mpr ⟨zO_11, List.forall_mem_cons.mpr ⟨zO_12, fun _ h => absurd h List.not_mem_nil⟩⟩⟩⟩⟩⟩⟩⟩⟩⟩⟩⟩⟩
theorem zT1_0 : Cond.methodLink (zi_cn 0) 97 Lib.Math.max.name ∈ zi_tb ∧ Cond.static Lib.Math.max.name ∈ zi_tb ∧ Cond.initialized "java/lang/Math" ∈ zi_tb ∧ Cond.code Lib.Math.max.name Lib.Math.max.code 2 (some .int) ∈ zi_tb := ⟨(zi_t3 (j := 147) rfl rfl), (zi_t3 (j := 70) rfl rfl), (zi_t1 (j := 14) rfl rfl), (zi_t3 (j := 71) rfl rfl)⟩
theorem zT1_1 : Cond.methodLink (zi_cn 3) 43 Lib.Math.max.name ∈ zi_tb ∧ Cond.static Lib.Math.max.name ∈ zi_tb ∧ Cond.initialized "java/lang/Math" ∈ zi_tb ∧ Cond.code Lib.Math.max.name Lib.Math.max.code 2 (some .int) ∈ zi_tb := ⟨(zi_t4 (j := 66) rfl rfl), (zi_t3 (j := 70) rfl rfl), (zi_t1 (j := 14) rfl rfl), (zi_t3 (j := 71) rfl rfl)⟩
theorem zT1_2 : Cond.methodLink (zi_cn 4) 44 Lib.Math.max.name ∈ zi_tb ∧ Cond.static Lib.Math.max.name ∈ zi_tb ∧ Cond.initialized "java/lang/Math" ∈ zi_tb ∧ Cond.code Lib.Math.max.name Lib.Math.max.code 2 (some .int) ∈ zi_tb := ⟨(zi_t5 (j := 71) rfl rfl), (zi_t3 (j := 70) rfl rfl), (zi_t1 (j := 14) rfl rfl), (zi_t3 (j := 71) rfl rfl)⟩
theorem zT1_3 : Cond.methodLink (zi_cn 7) 64 Lib.Math.max.name ∈ zi_tb ∧ Cond.static Lib.Math.max.name ∈ zi_tb ∧ Cond.initialized "java/lang/Math" ∈ zi_tb ∧ Cond.code Lib.Math.max.name Lib.Math.max.code 2 (some .int) ∈ zi_tb := ⟨(zi_t4 (j := 36) rfl rfl), (zi_t3 (j := 70) rfl rfl), (zi_t1 (j := 14) rfl rfl), (zi_t3 (j := 71) rfl rfl)⟩
theorem zT1_4 : Cond.methodLink (zi_cn 11) 409 Lib.Math.max.name ∈ zi_tb ∧ Cond.static Lib.Math.max.name ∈ zi_tb ∧ Cond.initialized "java/lang/Math" ∈ zi_tb ∧ Cond.code Lib.Math.max.name Lib.Math.max.code 2 (some .int) ∈ zi_tb := ⟨(zi_t5 (j := 134) rfl rfl), (zi_t3 (j := 70) rfl rfl), (zi_t1 (j := 14) rfl rfl), (zi_t3 (j := 71) rfl rfl)⟩
theorem zT1_5 : Cond.methodLink (zi_cn 12) 247 Lib.Math.max.name ∈ zi_tb ∧ Cond.static Lib.Math.max.name ∈ zi_tb ∧ Cond.initialized "java/lang/Math" ∈ zi_tb ∧ Cond.code Lib.Math.max.name Lib.Math.max.code 2 (some .int) ∈ zi_tb := ⟨(zi_t7 (j := 122) rfl rfl), (zi_t3 (j := 70) rfl rfl), (zi_t1 (j := 14) rfl rfl), (zi_t3 (j := 71) rfl rfl)⟩
theorem zT1_6 : Cond.methodLink (zi_cn 16) 92 Lib.Math.max.name ∈ zi_tb ∧ Cond.static Lib.Math.max.name ∈ zi_tb ∧ Cond.initialized "java/lang/Math" ∈ zi_tb ∧ Cond.code Lib.Math.max.name Lib.Math.max.code 2 (some .int) ∈ zi_tb := ⟨(zi_t3 (j := 69) rfl rfl), (zi_t3 (j := 70) rfl rfl), (zi_t1 (j := 14) rfl rfl), (zi_t3 (j := 71) rfl rfl)⟩
set_option maxRecDepth 100000 in
theorem zi_T1_ok : ∀ q ∈ zi_T1, Cond.methodLink (zi_cn q.1) q.2 Lib.Math.max.name ∈ zi_tb ∧ Cond.static Lib.Math.max.name ∈ zi_tb ∧ Cond.initialized "java/lang/Math" ∈ zi_tb ∧ Cond.code Lib.Math.max.name Lib.Math.max.code 2 (some .int) ∈ zi_tb := List.forall_mem_cons.mpr ⟨zT1_0, List.forall_mem_cons.mpr ⟨zT1_1, List.forall_mem_cons.mpr ⟨zT1_2, List.forall_mem_cons.mpr ⟨zT1_3, List.forall_mem_cons.mpr ⟨zT1_4, List.forall_mem_cons.mpr ⟨zT1_5, List.forall_mem_cons.mpr ⟨zT1_6, fun _ h => absurd h List.not_mem_nil⟩⟩⟩⟩⟩⟩⟩
theorem zT2_0 : Cond.methodLink (zi_cn 0) 92 Lib.Math.min.name ∈ zi_tb ∧ Cond.static Lib.Math.min.name ∈ zi_tb ∧ Cond.initialized "java/lang/Math" ∈ zi_tb ∧ Cond.code Lib.Math.min.name Lib.Math.min.code 2 (some .int) ∈ zi_tb := ⟨(zi_t3 (j := 146) rfl rfl), (zi_t2 (j := 162) rfl rfl), (zi_t1 (j := 14) rfl rfl), (zi_t2 (j := 163) rfl rfl)⟩
theorem zT2_1 : Cond.methodLink (zi_cn 7) 58 Lib.Math.min.name ∈ zi_tb ∧ Cond.static Lib.Math.min.name ∈ zi_tb ∧ Cond.initialized "java/lang/Math" ∈ zi_tb ∧ Cond.code Lib.Math.min.name Lib.Math.min.code 2 (some .int) ∈ zi_tb := ⟨(zi_t4 (j := 35) rfl rfl), (zi_t2 (j := 162) rfl rfl), (zi_t1 (j := 14) rfl rfl), (zi_t2 (j := 163) rfl rfl)⟩
theorem zT2_2 : Cond.methodLink (zi_cn 8) 20 Lib.Math.min.name ∈ zi_tb ∧ Cond.static Lib.Math.min.name ∈ zi_tb ∧ Cond.initialized "java/lang/Math" ∈ zi_tb ∧ Cond.code Lib.Math.min.name Lib.Math.min.code 2 (some .int) ∈ zi_tb := ⟨(zi_t2 (j := 161) rfl rfl), (zi_t2 (j := 162) rfl rfl), (zi_t1 (j := 14) rfl rfl), (zi_t2 (j := 163) rfl rfl)⟩
theorem zT2_3 : Cond.methodLink (zi_cn 9) 88 Lib.Math.min.name ∈ zi_tb ∧ Cond.static Lib.Math.min.name ∈ zi_tb ∧ Cond.initialized "java/lang/Math" ∈ zi_tb ∧ Cond.code Lib.Math.min.name Lib.Math.min.code 2 (some .int) ∈ zi_tb := ⟨(zi_t4 (j := 41) rfl rfl), (zi_t2 (j := 162) rfl rfl), (zi_t1 (j := 14) rfl rfl), (zi_t2 (j := 163) rfl rfl)⟩
theorem zT2_4 : Cond.methodLink (zi_cn 10) 76 Lib.Math.min.name ∈ zi_tb ∧ Cond.static Lib.Math.min.name ∈ zi_tb ∧ Cond.initialized "java/lang/Math" ∈ zi_tb ∧ Cond.code Lib.Math.min.name Lib.Math.min.code 2 (some .int) ∈ zi_tb := ⟨(zi_t5 (j := 4) rfl rfl), (zi_t2 (j := 162) rfl rfl), (zi_t1 (j := 14) rfl rfl), (zi_t2 (j := 163) rfl rfl)⟩
theorem zT2_5 : Cond.methodLink (zi_cn 12) 139 Lib.Math.min.name ∈ zi_tb ∧ Cond.static Lib.Math.min.name ∈ zi_tb ∧ Cond.initialized "java/lang/Math" ∈ zi_tb ∧ Cond.code Lib.Math.min.name Lib.Math.min.code 2 (some .int) ∈ zi_tb := ⟨(zi_t6 (j := 206) rfl rfl), (zi_t2 (j := 162) rfl rfl), (zi_t1 (j := 14) rfl rfl), (zi_t2 (j := 163) rfl rfl)⟩
theorem zT2_6 : Cond.methodLink (zi_cn 16) 38 Lib.Math.min.name ∈ zi_tb ∧ Cond.static Lib.Math.min.name ∈ zi_tb ∧ Cond.initialized "java/lang/Math" ∈ zi_tb ∧ Cond.code Lib.Math.min.name Lib.Math.min.code 2 (some .int) ∈ zi_tb := ⟨(zi_t3 (j := 72) rfl rfl), (zi_t2 (j := 162) rfl rfl), (zi_t1 (j := 14) rfl rfl), (zi_t2 (j := 163) rfl rfl)⟩
set_option maxRecDepth 100000 in
theorem zi_T2_ok : ∀ q ∈ zi_T2, Cond.methodLink (zi_cn q.1) q.2 Lib.Math.min.name ∈ zi_tb ∧ Cond.static Lib.Math.min.name ∈ zi_tb ∧ Cond.initialized "java/lang/Math" ∈ zi_tb ∧ Cond.code Lib.Math.min.name Lib.Math.min.code 2 (some .int) ∈ zi_tb := List.forall_mem_cons.mpr ⟨zT2_0, List.forall_mem_cons.mpr ⟨zT2_1, List.forall_mem_cons.mpr ⟨zT2_2, List.forall_mem_cons.mpr ⟨zT2_3, List.forall_mem_cons.mpr ⟨zT2_4, List.forall_mem_cons.mpr ⟨zT2_5, List.forall_mem_cons.mpr ⟨zT2_6, fun _ h => absurd h List.not_mem_nil⟩⟩⟩⟩⟩⟩⟩
theorem zT3_0 : Cond.methodLink (zi_cn 3) 37 arraycopyName ∈ zi_tb ∧ Cond.native arraycopyName ∈ zi_tb ∧ Cond.static arraycopyName ∈ zi_tb ∧ Cond.initialized "java/lang/System" ∈ zi_tb := ⟨(zi_t3 (j := 156) rfl rfl), (zi_t3 (j := 128) rfl rfl), (zi_t3 (j := 127) rfl rfl), (zi_t1 (j := 20) rfl rfl)⟩
theorem zT3_1 : Cond.methodLink (zi_cn 7) 46 arraycopyName ∈ zi_tb ∧ Cond.native arraycopyName ∈ zi_tb ∧ Cond.static arraycopyName ∈ zi_tb ∧ Cond.initialized "java/lang/System" ∈ zi_tb := ⟨(zi_t3 (j := 126) rfl rfl), (zi_t3 (j := 128) rfl rfl), (zi_t3 (j := 127) rfl rfl), (zi_t1 (j := 20) rfl rfl)⟩
set_option maxRecDepth 100000 in
theorem zi_T3_ok : ∀ q ∈ zi_T3, Cond.methodLink (zi_cn q.1) q.2 arraycopyName ∈ zi_tb ∧ Cond.native arraycopyName ∈ zi_tb ∧ Cond.static arraycopyName ∈ zi_tb ∧ Cond.initialized "java/lang/System" ∈ zi_tb := List.forall_mem_cons.mpr ⟨zT3_0, List.forall_mem_cons.mpr ⟨zT3_1, fun _ h => absurd h List.not_mem_nil⟩⟩
theorem zi_AR_int : Cond.arrayClass .int ∈ zi_tb := (zi_t1 (j := 53) rfl rfl)
theorem zi_AR_long : Cond.arrayClass .long ∈ zi_tb := (zi_t1 (j := 67) rfl rfl)
theorem zi_AR_boolean : Cond.arrayClass .boolean ∈ zi_tb := (zi_t2 (j := 16) rfl rfl)
end
section
/-! ===== the code is what the bytes decode to, its operands are resolved rightly ===== -/
def zi_tswb (pc : Nat) : Int → List Int → List (Int32 × Nat) → Bool
  | _, [], [] => true
  | lo, off :: offs, e :: z => decide (e.1.toInt = lo) && (decide ((pc : Int) + off = e.2) && zi_tswb pc (lo + 1) offs z)
  | _, _, _ => false
theorem zi_tswb_ok {pc : Nat} : ∀ {offs : List Int} {z : List (Int32 × Nat)} {lo : Int}, zi_tswb pc lo offs z = true → zi_tsw pc lo offs z
  | [], [], lo, _ => ⟨rfl, fun k hk => absurd hk (Nat.not_lt_zero k)⟩
  | [], _ :: _, lo, h => by cases h
  | _ :: _, [], lo, h => by cases h
  | off :: offs, e :: z, lo, h => by
    simp only [zi_tswb, Bool.and_eq_true, decide_eq_true_eq] at h
    obtain ⟨h1, h2, h3⟩ := h
    obtain ⟨g1, g2⟩ := zi_tswb_ok h3
    refine ⟨by simp [g1], fun k hk => ?_⟩
    cases k with
    | zero => exact ⟨e, off, rfl, rfl, by simpa using h1, h2⟩
    | succ k =>
      obtain ⟨e', off', a, b, c, d⟩ := g2 k (by simpa using hk)
      exact ⟨e', off', by simpa using a, by simpa using b, by rw [c]; push_cast; omega, d⟩
def zi_lswb (pc : Nat) : List (Int × Int) → List (Int32 × Nat) → Bool
  | [], [] => true
  | a :: as, b :: bs => decide (b.1.toInt = a.1) && (decide ((pc : Int) + a.2 = b.2) && zi_lswb pc as bs)
  | _, _ => false
theorem zi_lswb_ok {pc : Nat} : ∀ {ps : List (Int × Int)} {z : List (Int32 × Nat)}, zi_lswb pc ps z = true → zi_lsw pc ps z
  | [], [], _ => trivial
  | [], _ :: _, h => by cases h
  | _ :: _, [], h => by cases h
  | a :: as, b :: bs, h => by
    simp only [zi_lswb, Bool.and_eq_true, decide_eq_true_eq] at h
    exact ⟨h.1, h.2.1, zi_lswb_ok h.2.2⟩
def zi_q4 (l : List (Nat × Nat × Nat × Nat)) (a b c d : Nat) : Bool := l.any fun q => Nat.beq q.1 a && (Nat.beq q.2.1 b && (Nat.beq q.2.2.1 c && Nat.beq q.2.2.2 d))
def zi_q3 (l : List (Nat × Nat × Nat)) (a b c : Nat) : Bool := l.any fun q => Nat.beq q.1 a && (Nat.beq q.2.1 b && Nat.beq q.2.2 c)
def zi_q2 (l : List (Nat × Nat)) (a b : Nat) : Bool := l.any fun q => Nat.beq q.1 a && Nat.beq q.2 b
theorem zi_q4_ok {l : List (Nat × Nat × Nat × Nat)} {a b c d : Nat} (h : zi_q4 l a b c d = true) : (a, b, c, d) ∈ l := by
  obtain ⟨q, hq, h⟩ := List.any_eq_true.mp h
  simp only [Bool.and_eq_true] at h
  obtain ⟨q1, q2, q3, q4⟩ := q
  have e1 : q1 = a := zi_beq h.1
  have e2 : q2 = b := zi_beq h.2.1
  have e3 : q3 = c := zi_beq h.2.2.1
  have e4 : q4 = d := zi_beq h.2.2.2
  subst e1; subst e2; subst e3; subst e4
  exact hq
theorem zi_q3_ok {l : List (Nat × Nat × Nat)} {a b c : Nat} (h : zi_q3 l a b c = true) : (a, b, c) ∈ l := by
  obtain ⟨q, hq, h⟩ := List.any_eq_true.mp h
  simp only [Bool.and_eq_true] at h
  obtain ⟨q1, q2, q3⟩ := q
  have e1 : q1 = a := zi_beq h.1
  have e2 : q2 = b := zi_beq h.2.1
  have e3 : q3 = c := zi_beq h.2.2
  subst e1; subst e2; subst e3
  exact hq
theorem zi_q2_ok {l : List (Nat × Nat)} {a b : Nat} (h : zi_q2 l a b = true) : (a, b) ∈ l := by
  obtain ⟨q, hq, h⟩ := List.any_eq_true.mp h
  simp only [Bool.and_eq_true] at h
  obtain ⟨q1, q2⟩ := q
  have e1 : q1 = a := zi_beq h.1
  have e2 : q2 = b := zi_beq h.2
  subst e1; subst e2
  exact hq
def zi_gCb (o ix x y : Nat) : Bool := match y with
  | 0 => zi_q3 zi_KT o ix x
  | _ => Nat.beq x (2 * (x / 2)) && zi_q3 zi_TT o ix (x / 2)
theorem zi_gCb_ok {o ix x y : Nat} (h : zi_gCb o ix x y = true) : zi_gC o ix x y := by
  unfold zi_gCb at h
  unfold zi_gC
  split at h
  · exact zi_KT_ok _ (zi_q3_ok h)
  · rw [Bool.and_eq_true] at h
    split
    · contradiction
    · exact ⟨x / 2, zi_beq h.1, zi_q3_ok h.2⟩
def zi_goodb (ini : Bool) (o pc : Nat) (q : zi_I) : Bool := match q.1 with
  | .ldc ix => zi_gCb o ix q.2.2.1 q.2.2.2.1
  | .ldc_w ix => zi_gCb o ix q.2.2.1 q.2.2.2.1
  | .getstatic ix => Nat.beq q.2.2.1 1 && zi_q2 zi_GT o ix
  | .ldc2_w ix => zi_q3 zi_LT o ix q.2.2.1
  | .goto off => decide ((pc : Int) + off = q.2.2.1)
  | .ifCond _ off => decide ((pc : Int) + off = q.2.2.1)
  | .if_icmp _ off => decide ((pc : Int) + off = q.2.2.1)
  | .tableswitch d lo hi offs => decide ((pc : Int) + d = q.2.2.1) && (decide (hi = lo + offs.size - 1) && zi_tswb pc lo offs.toList q.2.2.2.2)
  | .lookupswitch d ps => decide ((pc : Int) + d = q.2.2.1) && ((ps.toList.zip (ps.toList.drop 1)).all (fun (a, next) => a.1 < next.1) && zi_lswb pc ps.toList q.2.2.2.2)
  | .getfield ix => zi_q4 zi_FT o ix q.2.2.1 q.2.2.2.1
  | .putfield ix => zi_q4 zi_PN o ix q.2.2.1 q.2.2.2.1 || (ini && zi_q4 zi_PF o ix q.2.2.1 q.2.2.2.1)
  | .newarray .int => true
  | .newarray .long => true
  | .newarray .boolean => true
  | .newarray _ => false
  | .anewarray ix => zi_q2 zi_AT o ix
  | .new ix => zi_q3 zi_NT o ix q.2.2.1
  | .invokevirtual ix => zi_q4 zi_VT o ix q.2.2.1 q.2.2.2.1
  | .invokespecial ix => match q.2.2.1 with
    | 9000 => zi_q2 zi_OT o ix
    | n => zi_q4 zi_IT o ix n q.2.2.2.1 && !(Nat.beq n 9000)
  | .invokestatic ix => match q.2.2.1 with
    | 9001 => zi_q2 zi_T1 o ix
    | 9002 => zi_q2 zi_T2 o ix
    | 9003 => zi_q2 zi_T3 o ix
    | n => zi_q4 zi_ST o ix n q.2.2.2.1 && (!(Nat.beq n 9001) && (!(Nat.beq n 9002) && !(Nat.beq n 9003)))
  | _ => true
theorem zi_nbeq {a b : Nat} (h : Nat.beq a b = false) : ¬ a = b := fun e => by
  subst e
  rw [Nat.beq_refl] at h
  cases h
theorem zi_goodb_ok {ini : Bool} {nm : String} {o pc : Nat} {q : zi_I} (hi : ini = true → nm = "<init>") (h : zi_goodb ini o pc q = true) : zi_good zi_M nm o pc q := by
  obtain ⟨i, len, x, y, z⟩ := q
  cases i with
  | ldc ix => exact zi_gCb_ok h
  | ldc_w ix => exact zi_gCb_ok h
  | getstatic ix =>
    simp only [zi_goodb, Bool.and_eq_true] at h
    exact ⟨zi_beq h.1, zi_GT_ok _ (zi_q2_ok h.2)⟩
  | ldc2_w ix => exact zi_LT_ok _ (zi_q3_ok h)
  | goto off =>
    have h : (pc : Int) + off = x := of_decide_eq_true h
    exact h
  | ifCond k off =>
    have h : (pc : Int) + off = x := of_decide_eq_true h
    exact h
  | if_icmp k off =>
    have h : (pc : Int) + off = x := of_decide_eq_true h
    exact h
  | tableswitch d lo hi offs =>
    simp only [zi_goodb, Bool.and_eq_true, decide_eq_true_eq] at h
    exact ⟨h.1, h.2.1, zi_tswb_ok h.2.2⟩
  | lookupswitch d ps =>
    simp only [zi_goodb, Bool.and_eq_true, decide_eq_true_eq] at h
    exact ⟨h.1, h.2.1, zi_lswb_ok h.2.2⟩
  | getfield ix => exact zi_FT_ok _ (zi_q4_ok h)
  | putfield ix =>
    simp only [zi_goodb, Bool.or_eq_true, Bool.and_eq_true] at h
    rcases h with h | ⟨h1, h⟩
    · exact zi_PN_ok _ (zi_q4_ok h) nm
    · rw [hi h1]
      exact zi_PF_ok _ (zi_q4_ok h)
  | newarray t =>
    cases t with
    | int => exact zi_AR_int
    | long => exact zi_AR_long
    | boolean => exact zi_AR_boolean
    | _ => cases h
  | anewarray ix => exact zi_AT_ok _ (zi_q2_ok h)
  | new ix => exact zi_NT_ok _ (zi_q3_ok h)
  | invokevirtual ix => exact zi_VT_ok _ (zi_q4_ok h)
  | invokespecial ix =>
    simp only [zi_goodb] at h
    split at h
    · exact zi_OT_ok _ (zi_q2_ok h)
    · simp only [Bool.and_eq_true, Bool.not_eq_true'] at h
      simp only [zi_good, if_neg (zi_nbeq h.2)]
      exact zi_IT_ok _ (zi_q4_ok h.1)
  | invokestatic ix =>
    simp only [zi_goodb] at h
    split at h
    · exact zi_T1_ok _ (zi_q2_ok h)
    · exact zi_T2_ok _ (zi_q2_ok h)
    · exact zi_T3_ok _ (zi_q2_ok h)
    · simp only [Bool.and_eq_true, Bool.not_eq_true'] at h
      simp only [zi_good, if_neg (zi_nbeq h.2.1), if_neg (zi_nbeq h.2.2.1), if_neg (zi_nbeq h.2.2.2)]
      exact zi_ST_ok _ (zi_q4_ok h.1)
  | _ => trivial
def zi_chk (b : ByteArray) (ini : Bool) (o : Nat) : Nat → List (Option zi_I) → Bool
  | _, [] => true
  | pc, none :: r => zi_chk b ini o (pc + 1) r
  | pc, some q :: r => (decide (decode b pc = .ok (q.1, q.2.1)) && (Nat.beq q.2.1 (zi_ln q.1 q.2.1) && zi_goodb ini o pc q)) && zi_chk b ini o (pc + 1) r
theorem zi_chk_ok {b : ByteArray} {ini : Bool} {nm : String} {o : Nat} (hi : ini = true → nm = "<init>") : ∀ {l : List (Option zi_I)} {s : Nat}, zi_chk b ini o s l = true → ∀ k q, l[k]? = some (some q) → decode b (s + k) = .ok (q.1, q.2.1) ∧ q.2.1 = zi_ln q.1 q.2.1 ∧ zi_good zi_M nm o (s + k) q
  | [], s, _, k, q, hk => by simp at hk
  | none :: r, s, h, k, q, hk => by
    cases k with
    | zero => cases hk
    | succ k =>
      have := zi_chk_ok hi (l := r) (s := s + 1) h k q (by simpa using hk)
      rwa [show s + 1 + k = s + (k + 1) by omega] at this
  | some q0 :: r, s, h, k, q, hk => by
    simp only [zi_chk, Bool.and_eq_true, decide_eq_true_eq] at h
    cases k with
    | zero =>
      have e : q0 = q := by simpa using hk
      subst e
      exact ⟨h.1.1, zi_beq h.1.2.1, zi_goodb_ok hi h.1.2.2⟩
    | succ k =>
      have := zi_chk_ok hi (l := r) (s := s + 1) h.2 k q (by simpa using hk)
      rwa [show s + 1 + k = s + (k + 1) by omega] at this
/-- what zi_Prog asks of a method -/
def zi_pg (e : Nat × zi_MI) : Prop := plainName e.2.1.cls = true ∧ e.2.1.cls = zi_cn (e.1 / 200) ∧ ∀ (pc : Nat) (q : zi_I), zi_P e.1 pc = some q → decode e.2.2.1 pc = .ok (q.1, q.2.1) ∧ q.2.1 = zi_ln q.1 q.2.1 ∧ zi_good zi_M e.2.1.name (e.1 / 200) pc q
theorem zi_pg_of {x : Nat} {d : zi_MI} {ini : Bool} {l : List (Option zi_I)} (hm : zi_mf x d) (hl : zi_kod x = l) (hi : ini = true → d.1.name = "<init>") (h : zi_chk d.2.1 ini (x / 200) 0 l = true) : zi_pg (x, d) := by
  refine ⟨hm.2.2.2.2.2.2, hm.2.1, fun pc q hq => ?_⟩
  have h1 : l[pc]? = some (some q) := by
    rw [← hl]
    have hq' : ((zi_kod x)[pc]?).join = some q := hq
    cases hc : (zi_kod x)[pc]? with
    | none => rw [hc] at hq'; cases hq'
    | some w => rw [hc] at hq'; exact congrArg some hq'
  have := zi_chk_ok hi h pc q h1
  rwa [Nat.zero_add] at this
end
section
/-! ===== printed: the code of each method ===== -/
set_option maxRecDepth 100000 in
theorem zk_0 : zi_chk cX0_init true 0 0 kX0_init = true := by decide +kernel
theorem zp_0 : zi_pg (0, (yX0_init, cX0_init, 1, 0, 0)) := zi_pg_of zm_0 rfl (fun _ => rfl) zk_0
set_option maxRecDepth 100000 in
theorem zk_1 : zi_chk cX0_hasLock false 0 0 kX0_hasLock = true := by decide +kernel
theorem zp_1 : zi_pg (1, (yX0_hasLock, cX0_hasLock, 2, 2, 1)) := zi_pg_of zm_1 rfl (fun h => by cases h) zk_1
set_option maxRecDepth 100000 in
theorem zk_2 : zi_chk cX0_hasPlace false 0 0 kX0_hasPlace = true := by decide +kernel
theorem zp_2 : zi_pg (2, (yX0_hasPlace, cX0_hasPlace, 2, 2, 1)) := zi_pg_of zm_2 rfl (fun h => by cases h) zk_2
set_option maxRecDepth 100000 in
theorem zk_3 : zi_chk cX0_hasSinger false 0 0 kX0_hasSinger = true := by decide +kernel
theorem zp_3 : zi_pg (3, (yX0_hasSinger, cX0_hasSinger, 2, 2, 1)) := zi_pg_of zm_3 rfl (fun h => by cases h) zk_3
set_option maxRecDepth 100000 in
theorem zk_4 : zi_chk cX0_hasBarge false 0 0 kX0_hasBarge = true := by decide +kernel
theorem zp_4 : zi_pg (4, (yX0_hasBarge, cX0_hasBarge, 2, 2, 1)) := zi_pg_of zm_4 rfl (fun h => by cases h) zk_4
set_option maxRecDepth 100000 in
theorem zk_5 : zi_chk cX0_many false 0 0 kX0_many = true := by decide +kernel
theorem zp_5 : zi_pg (5, (yX0_many, cX0_many, 2, 1, 1)) := zi_pg_of zm_5 rfl (fun h => by cases h) zk_5
set_option maxRecDepth 100000 in
theorem zk_6 : zi_chk cX0_room false 0 0 kX0_room = true := by decide +kernel
theorem zp_6 : zi_pg (6, (yX0_room, cX0_room, 2, 1, 1)) := zi_pg_of zm_6 rfl (fun h => by cases h) zk_6
set_option maxRecDepth 100000 in
theorem zk_7 : zi_chk cX0_grow false 0 0 kX0_grow = true := by decide +kernel
theorem zp_7 : zi_pg (7, (yX0_grow, cX0_grow, 3, 0, 2)) := zi_pg_of zm_7 rfl (fun h => by cases h) zk_7
set_option maxRecDepth 100000 in
theorem zk_8 : zi_chk cX0_readLine false 0 0 kX0_readLine = true := by decide +kernel
theorem zp_8 : zi_pg (8, (yX0_readLine, cX0_readLine, 5, 2, 4)) := zi_pg_of zm_8 rfl (fun h => by cases h) zk_8
set_option maxRecDepth 100000 in
theorem zk_9 : zi_chk cX0_readLock false 0 0 kX0_readLock = true := by decide +kernel
theorem zp_9 : zi_pg (9, (yX0_readLock, cX0_readLock, 5, 2, 2)) := zi_pg_of zm_9 rfl (fun h => by cases h) zk_9
set_option maxRecDepth 100000 in
theorem zk_10 : zi_chk cX0_readSinger false 0 0 kX0_readSinger = true := by decide +kernel
theorem zp_10 : zi_pg (10, (yX0_readSinger, cX0_readSinger, 7, 2, 3)) := zi_pg_of zm_10 rfl (fun h => by cases h) zk_10
set_option maxRecDepth 100000 in
theorem zk_11 : zi_chk cX0_readBarge false 0 0 kX0_readBarge = true := by decide +kernel
theorem zp_11 : zi_pg (11, (yX0_readBarge, cX0_readBarge, 5, 2, 3)) := zi_pg_of zm_11 rfl (fun h => by cases h) zk_11
set_option maxRecDepth 100000 in
theorem zk_12 : zi_chk cX0_readPlace false 0 0 kX0_readPlace = true := by decide +kernel
theorem zp_12 : zi_pg (12, (yX0_readPlace, cX0_readPlace, 3, 1, 1)) := zi_pg_of zm_12 rfl (fun h => by cases h) zk_12
set_option maxRecDepth 100000 in
theorem zk_13 : zi_chk cX0_takeFees false 0 0 kX0_takeFees = true := by decide +kernel
theorem zp_13 : zi_pg (13, (yX0_takeFees, cX0_takeFees, 8, 1, 4)) := zi_pg_of zm_13 rfl (fun h => by cases h) zk_13
set_option maxRecDepth 100000 in
theorem zk_14 : zi_chk cX0_narrowed false 0 0 kX0_narrowed = true := by decide +kernel
theorem zp_14 : zi_pg (14, (yX0_narrowed, cX0_narrowed, 2, 1, 2)) := zi_pg_of zm_14 rfl (fun h => by cases h) zk_14
set_option maxRecDepth 100000 in
theorem zk_15 : zi_chk cX0_crewOf false 0 0 kX0_crewOf = true := by decide +kernel
theorem zp_15 : zi_pg (15, (yX0_crewOf, cX0_crewOf, 5, 1, 2)) := zi_pg_of zm_15 rfl (fun h => by cases h) zk_15
set_option maxRecDepth 100000 in
theorem zk_16 : zi_chk cX0_freeAt false 0 0 kX0_freeAt = true := by decide +kernel
theorem zp_16 : zi_pg (16, (yX0_freeAt, cX0_freeAt, 5, 1, 2)) := zi_pg_of zm_16 rfl (fun h => by cases h) zk_16
set_option maxRecDepth 100000 in
theorem zk_17 : zi_chk cX0_tiredOf false 0 0 kX0_tiredOf = true := by decide +kernel
theorem zp_17 : zi_pg (17, (yX0_tiredOf, cX0_tiredOf, 5, 1, 2)) := zi_pg_of zm_17 rfl (fun h => by cases h) zk_17
set_option maxRecDepth 100000 in
theorem zk_18 : zi_chk cX0_feesOf false 0 0 kX0_feesOf = true := by decide +kernel
theorem zp_18 : zi_pg (18, (yX0_feesOf, cX0_feesOf, 4, 1, 1)) := zi_pg_of zm_18 rfl (fun h => by cases h) zk_18
set_option maxRecDepth 100000 in
theorem zk_19 : zi_chk cX0_ableToSing false 0 0 kX0_ableToSing = true := by decide +kernel
theorem zp_19 : zi_pg (19, (yX0_ableToSing, cX0_ableToSing, 5, 1, 2)) := zi_pg_of zm_19 rfl (fun h => by cases h) zk_19
set_option maxRecDepth 100000 in
theorem zk_20 : zi_chk cX0_chordBits false 0 0 kX0_chordBits = true := by decide +kernel
theorem zp_20 : zi_pg (20, (yX0_chordBits, cX0_chordBits, 4, 1, 1)) := zi_pg_of zm_20 rfl (fun h => by cases h) zk_20
set_option maxRecDepth 100000 in
theorem zk_200 : zi_chk cX1_init true 1 0 kX1_init = true := by decide +kernel
theorem zp_200 : zi_pg (200, (yX1_init, cX1_init, 2, 0, 1)) := zi_pg_of zm_200 rfl (fun _ => rfl) zk_200
set_option maxRecDepth 100000 in
theorem zk_201 : zi_chk cX1_gather false 1 0 kX1_gather = true := by decide +kernel
theorem zp_201 : zi_pg (201, (yX1_gather, cX1_gather, 6, 0, 3)) := zi_pg_of zm_201 rfl (fun h => by cases h) zk_201
set_option maxRecDepth 100000 in
theorem zk_202 : zi_chk cX1_placeOf false 1 0 kX1_placeOf = true := by decide +kernel
theorem zp_202 : zi_pg (202, (yX1_placeOf, cX1_placeOf, 1, 1, 1)) := zi_pg_of zm_202 rfl (fun h => by cases h) zk_202
set_option maxRecDepth 100000 in
theorem zk_203 : zi_chk cX1_canSing false 1 0 kX1_canSing = true := by decide +kernel
theorem zp_203 : zi_pg (203, (yX1_canSing, cX1_canSing, 5, 2, 2)) := zi_pg_of zm_203 rfl (fun h => by cases h) zk_203
set_option maxRecDepth 100000 in
theorem zk_204 : zi_chk cX1_settle false 1 0 kX1_settle = true := by decide +kernel
theorem zp_204 : zi_pg (204, (yX1_settle, cX1_settle, 5, 2, 1)) := zi_pg_of zm_204 rfl (fun h => by cases h) zk_204
set_option maxRecDepth 100000 in
theorem zk_205 : zi_chk cX1_firstFor false 1 0 kX1_firstFor = true := by decide +kernel
theorem zp_205 : zi_pg (205, (yX1_firstFor, cX1_firstFor, 6, 1, 3)) := zi_pg_of zm_205 rfl (fun h => by cases h) zk_205
set_option maxRecDepth 100000 in
theorem zk_206 : zi_chk cX1_mostNotes false 1 0 kX1_mostNotes = true := by decide +kernel
theorem zp_206 : zi_pg (206, (yX1_mostNotes, cX1_mostNotes, 4, 1, 1)) := zi_pg_of zm_206 rfl (fun h => by cases h) zk_206
set_option maxRecDepth 100000 in
theorem zk_207 : zi_chk cX1_fewestMissed false 1 0 kX1_fewestMissed = true := by decide +kernel
theorem zp_207 : zi_pg (207, (yX1_fewestMissed, cX1_fewestMissed, 5, 1, 1)) := zi_pg_of zm_207 rfl (fun h => by cases h) zk_207
set_option maxRecDepth 100000 in
theorem zk_400 : zi_chk cX2_init true 2 0 kX2_init = true := by decide +kernel
theorem zp_400 : zi_pg (400, (yX2_init, cX2_init, 3, 0, 2)) := zi_pg_of zm_400 rfl (fun _ => rfl) zk_400
set_option maxRecDepth 100000 in
theorem zk_401 : zi_chk cX2_begin false 2 0 kX2_begin = true := by decide +kernel
theorem zp_401 : zi_pg (401, (yX2_begin, cX2_begin, 2, 0, 0)) := zi_pg_of zm_401 rfl (fun h => by cases h) zk_401
set_option maxRecDepth 100000 in
theorem zk_402 : zi_chk cX2_mustSing false 2 0 kX2_mustSing = true := by decide +kernel
theorem zp_402 : zi_pg (402, (yX2_mustSing, cX2_mustSing, 6, 0, 4)) := zi_pg_of zm_402 rfl (fun h => by cases h) zk_402
set_option maxRecDepth 100000 in
theorem zk_403 : zi_chk cX2_cheapest false 2 0 kX2_cheapest = true := by decide +kernel
theorem zp_403 : zi_pg (403, (yX2_cheapest, cX2_cheapest, 4, 1, 1)) := zi_pg_of zm_403 rfl (fun h => by cases h) zk_403
set_option maxRecDepth 100000 in
theorem zk_404 : zi_chk cX2_isBetter false 2 0 kX2_isBetter = true := by decide +kernel
theorem zp_404 : zi_pg (404, (yX2_isBetter, cX2_isBetter, 5, 2, 2)) := zi_pg_of zm_404 rfl (fun h => by cases h) zk_404
set_option maxRecDepth 100000 in
theorem zk_600 : zi_chk cX3_init true 3 0 kX3_init = true := by decide +kernel
theorem zp_600 : zi_pg (600, (yX3_init, cX3_init, 1, 0, 0)) := zi_pg_of zm_600 rfl (fun _ => rfl) zk_600
set_option maxRecDepth 100000 in
theorem zk_601 : zi_chk cX3_copy false 3 0 kX3_copy = true := by decide +kernel
theorem zp_601 : zi_pg (601, (yX3_copy, cX3_copy, 2, 0, 1)) := zi_pg_of zm_601 rfl (fun h => by cases h) zk_601
set_option maxRecDepth 100000 in
theorem zk_602 : zi_chk cX3_levelOf false 3 0 kX3_levelOf = true := by decide +kernel
theorem zp_602 : zi_pg (602, (yX3_levelOf, cX3_levelOf, 2, 1, 1)) := zi_pg_of zm_602 rfl (fun h => by cases h) zk_602
set_option maxRecDepth 100000 in
theorem zk_603 : zi_chk cX3_setLevel false 3 0 kX3_setLevel = true := by decide +kernel
theorem zp_603 : zi_pg (603, (yX3_setLevel, cX3_setLevel, 3, 0, 2)) := zi_pg_of zm_603 rfl (fun h => by cases h) zk_603
set_option maxRecDepth 100000 in
theorem zk_604 : zi_chk cX3_whereIs false 3 0 kX3_whereIs = true := by decide +kernel
theorem zp_604 : zi_pg (604, (yX3_whereIs, cX3_whereIs, 3, 1, 1)) := zi_pg_of zm_604 rfl (fun h => by cases h) zk_604
set_option maxRecDepth 100000 in
theorem zk_605 : zi_chk cX3_letGoBy false 3 0 kX3_letGoBy = true := by decide +kernel
theorem zp_605 : zi_pg (605, (yX3_letGoBy, cX3_letGoBy, 4, 0, 1)) := zi_pg_of zm_605 rfl (fun h => by cases h) zk_605
set_option maxRecDepth 100000 in
theorem zk_800 : zi_chk cX4_init true 4 0 kX4_init = true := by decide +kernel
theorem zp_800 : zi_pg (800, (yX4_init, cX4_init, 2, 0, 1)) := zi_pg_of zm_800 rfl (fun _ => rfl) zk_800
set_option maxRecDepth 100000 in
theorem zk_801 : zi_chk cX4_size false 4 0 kX4_size = true := by decide +kernel
theorem zp_801 : zi_pg (801, (yX4_size, cX4_size, 1, 1, 0)) := zi_pg_of zm_801 rfl (fun h => by cases h) zk_801
set_option maxRecDepth 100000 in
theorem zk_802 : zi_chk cX4_clear false 4 0 kX4_clear = true := by decide +kernel
theorem zp_802 : zi_pg (802, (yX4_clear, cX4_clear, 1, 0, 0)) := zi_pg_of zm_802 rfl (fun h => by cases h) zk_802
set_option maxRecDepth 100000 in
theorem zk_803 : zi_chk cX4_note false 4 0 kX4_note = true := by decide +kernel
theorem zp_803 : zi_pg (803, (yX4_note, cX4_note, 3, 2, 2)) := zi_pg_of zm_803 rfl (fun h => by cases h) zk_803
set_option maxRecDepth 100000 in
theorem zk_804 : zi_chk cX4_hasInRange false 4 0 kX4_hasInRange = true := by decide +kernel
theorem zp_804 : zi_pg (804, (yX4_hasInRange, cX4_hasInRange, 3, 2, 2)) := zi_pg_of zm_804 rfl (fun h => by cases h) zk_804
set_option maxRecDepth 100000 in
theorem zk_805 : zi_chk cX4_fitting false 4 0 kX4_fitting = true := by decide +kernel
theorem zp_805 : zi_pg (805, (yX4_fitting, cX4_fitting, 5, 1, 0)) := zi_pg_of zm_805 rfl (fun h => by cases h) zk_805
set_option maxRecDepth 100000 in
theorem zk_806 : zi_chk cX4_leftAtMost false 4 0 kX4_leftAtMost = true := by decide +kernel
theorem zp_806 : zi_pg (806, (yX4_leftAtMost, cX4_leftAtMost, 7, 1, 2)) := zi_pg_of zm_806 rfl (fun h => by cases h) zk_806
set_option maxRecDepth 100000 in
theorem zk_807 : zi_chk cX4_parting false 4 0 kX4_parting = true := by decide +kernel
theorem zp_807 : zi_pg (807, (yX4_parting, cX4_parting, 3, 1, 0)) := zi_pg_of zm_807 rfl (fun h => by cases h) zk_807
set_option maxRecDepth 100000 in
theorem zk_808 : zi_chk cX4_findPairs false 4 0 kX4_findPairs = true := by decide +kernel
theorem zp_808 : zi_pg (808, (yX4_findPairs, cX4_findPairs, 5, 0, 1)) := zi_pg_of zm_808 rfl (fun h => by cases h) zk_808
set_option maxRecDepth 100000 in
theorem zk_809 : zi_chk cX4_allApart false 4 0 kX4_allApart = true := by decide +kernel
theorem zp_809 : zi_pg (809, (yX4_allApart, cX4_allApart, 3, 2, 0)) := zi_pg_of zm_809 rfl (fun h => by cases h) zk_809
set_option maxRecDepth 100000 in
theorem zk_810 : zi_chk cX4_markPair false 4 0 kX4_markPair = true := by decide +kernel
theorem zp_810 : zi_pg (810, (yX4_markPair, cX4_markPair, 5, 0, 3)) := zi_pg_of zm_810 rfl (fun h => by cases h) zk_810
set_option maxRecDepth 100000 in
theorem zk_811 : zi_chk cX4_partingBy false 4 0 kX4_partingBy = true := by decide +kernel
theorem zp_811 : zi_pg (811, (yX4_partingBy, cX4_partingBy, 6, 1, 3)) := zi_pg_of zm_811 rfl (fun h => by cases h) zk_811
set_option maxRecDepth 100000 in
theorem zk_1000 : zi_chk cX5_init true 5 0 kX5_init = true := by decide +kernel
theorem zp_1000 : zi_pg (1000, (yX5_init, cX5_init, 1, 0, 0)) := zi_pg_of zm_1000 rfl (fun _ => rfl) zk_1000
set_option maxRecDepth 100000 in
theorem zk_1001 : zi_chk cX5_size false 5 0 kX5_size = true := by decide +kernel
theorem zp_1001 : zi_pg (1001, (yX5_size, cX5_size, 1, 1, 0)) := zi_pg_of zm_1001 rfl (fun h => by cases h) zk_1001
set_option maxRecDepth 100000 in
theorem zk_1002 : zi_chk cX5_at false 5 0 kX5_at = true := by decide +kernel
theorem zp_1002 : zi_pg (1002, (yX5_at, cX5_at, 2, 3, 1)) := zi_pg_of zm_1002 rfl (fun h => by cases h) zk_1002
set_option maxRecDepth 100000 in
theorem zk_1003 : zi_chk cX5_clear false 5 0 kX5_clear = true := by decide +kernel
theorem zp_1003 : zi_pg (1003, (yX5_clear, cX5_clear, 1, 0, 0)) := zi_pg_of zm_1003 rfl (fun h => by cases h) zk_1003
set_option maxRecDepth 100000 in
theorem zk_1004 : zi_chk cX5_add false 5 0 kX5_add = true := by decide +kernel
theorem zp_1004 : zi_pg (1004, (yX5_add, cX5_add, 3, 0, 1)) := zi_pg_of zm_1004 rfl (fun h => by cases h) zk_1004
set_option maxRecDepth 100000 in
theorem zk_1005 : zi_chk cX5_tell false 5 0 kX5_tell = true := by decide +kernel
theorem zp_1005 : zi_pg (1005, (yX5_tell, cX5_tell, 3, 0, 1)) := zi_pg_of zm_1005 rfl (fun h => by cases h) zk_1005
set_option maxRecDepth 100000 in
theorem zk_1200 : zi_chk cX6_init true 6 0 kX6_init = true := by decide +kernel
theorem zp_1200 : zi_pg (1200, (yX6_init, cX6_init, 2, 0, 0)) := zi_pg_of zm_1200 rfl (fun _ => rfl) zk_1200
set_option maxRecDepth 100000 in
theorem zk_1201 : zi_chk cX6_size false 6 0 kX6_size = true := by decide +kernel
theorem zp_1201 : zi_pg (1201, (yX6_size, cX6_size, 1, 1, 0)) := zi_pg_of zm_1201 rfl (fun h => by cases h) zk_1201
set_option maxRecDepth 100000 in
theorem zk_1202 : zi_chk cX6_clear false 6 0 kX6_clear = true := by decide +kernel
theorem zp_1202 : zi_pg (1202, (yX6_clear, cX6_clear, 1, 0, 0)) := zi_pg_of zm_1202 rfl (fun h => by cases h) zk_1202
set_option maxRecDepth 100000 in
theorem zk_1203 : zi_chk cX6_add false 6 0 kX6_add = true := by decide +kernel
theorem zp_1203 : zi_pg (1203, (yX6_add, cX6_add, 2, 0, 1)) := zi_pg_of zm_1203 rfl (fun h => by cases h) zk_1203
set_option maxRecDepth 100000 in
theorem zk_1204 : zi_chk cX6_takeBack false 6 0 kX6_takeBack = true := by decide +kernel
theorem zp_1204 : zi_pg (1204, (yX6_takeBack, cX6_takeBack, 2, 2, 1)) := zi_pg_of zm_1204 rfl (fun h => by cases h) zk_1204
set_option maxRecDepth 100000 in
theorem zk_1400 : zi_chk cX7_init true 7 0 kX7_init = true := by decide +kernel
theorem zp_1400 : zi_pg (1400, (yX7_init, cX7_init, 1, 0, 0)) := zi_pg_of zm_1400 rfl (fun _ => rfl) zk_1400
set_option maxRecDepth 100000 in
theorem zk_1401 : zi_chk cX7_read false 7 0 kX7_read = true := by decide +kernel
theorem zp_1401 : zi_pg (1401, (yX7_read, cX7_read, 2, 1, 1)) := zi_pg_of zm_1401 rfl (fun h => by cases h) zk_1401
set_option maxRecDepth 100000 in
theorem zk_1402 : zi_chk cX7_put false 7 0 kX7_put = true := by decide +kernel
theorem zp_1402 : zi_pg (1402, (yX7_put, cX7_put, 3, 0, 2)) := zi_pg_of zm_1402 rfl (fun h => by cases h) zk_1402
set_option maxRecDepth 100000 in
theorem zk_1403 : zi_chk cX7_minutes false 7 0 kX7_minutes = true := by decide +kernel
theorem zp_1403 : zi_pg (1403, (yX7_minutes, cX7_minutes, 2, 1, 0)) := zi_pg_of zm_1403 rfl (fun h => by cases h) zk_1403
set_option maxRecDepth 100000 in
theorem zk_1404 : zi_chk cX7_comparison false 7 0 kX7_comparison = true := by decide +kernel
theorem zp_1404 : zi_pg (1404, (yX7_comparison, cX7_comparison, 4, 2, 2)) := zi_pg_of zm_1404 rfl (fun h => by cases h) zk_1404
set_option maxRecDepth 100000 in
theorem zk_1405 : zi_chk cX7_sum false 7 0 kX7_sum = true := by decide +kernel
theorem zp_1405 : zi_pg (1405, (yX7_sum, cX7_sum, 6, 2, 2)) := zi_pg_of zm_1405 rfl (fun h => by cases h) zk_1405
set_option maxRecDepth 100000 in
theorem zk_1406 : zi_chk cX7_product false 7 0 kX7_product = true := by decide +kernel
theorem zp_1406 : zi_pg (1406, (yX7_product, cX7_product, 6, 2, 2)) := zi_pg_of zm_1406 rfl (fun h => by cases h) zk_1406
set_option maxRecDepth 100000 in
theorem zk_1407 : zi_chk cX7_negated false 7 0 kX7_negated = true := by decide +kernel
theorem zp_1407 : zi_pg (1407, (yX7_negated, cX7_negated, 5, 2, 2)) := zi_pg_of zm_1407 rfl (fun h => by cases h) zk_1407
set_option maxRecDepth 100000 in
theorem zk_1408 : zi_chk cX7_thing false 7 0 kX7_thing = true := by decide +kernel
theorem zp_1408 : zi_pg (1408, (yX7_thing, cX7_thing, 5, 2, 2)) := zi_pg_of zm_1408 rfl (fun h => by cases h) zk_1408
set_option maxRecDepth 100000 in
theorem zk_1409 : zi_chk cX7_emit false 7 0 kX7_emit = true := by decide +kernel
theorem zp_1409 : zi_pg (1409, (yX7_emit, cX7_emit, 2, 2, 1)) := zi_pg_of zm_1409 rfl (fun h => by cases h) zk_1409
set_option maxRecDepth 100000 in
theorem zk_1410 : zi_chk cX7_worth false 7 0 kX7_worth = true := by decide +kernel
theorem zp_1410 : zi_pg (1410, (yX7_worth, cX7_worth, 5, 1, 0)) := zi_pg_of zm_1410 rfl (fun h => by cases h) zk_1410
set_option maxRecDepth 100000 in
theorem zk_1411 : zi_chk cX7_joined false 7 0 kX7_joined = true := by decide +kernel
theorem zp_1411 : zi_pg (1411, (yX7_joined, cX7_joined, 3, 1, 3)) := zi_pg_of zm_1411 rfl (fun h => by cases h) zk_1411
end
section
/-! ===== printed: the code of each method ===== -/
set_option maxRecDepth 100000 in
theorem zk_1600 : zi_chk cX8_init true 8 0 kX8_init = true := by decide +kernel
theorem zp_1600 : zi_pg (1600, (yX8_init, cX8_init, 1, 0, 0)) := zi_pg_of zm_1600 rfl (fun _ => rfl) zk_1600
set_option maxRecDepth 100000 in
theorem zk_1601 : zi_chk cX8_length false 8 0 kX8_length = true := by decide +kernel
theorem zp_1601 : zi_pg (1601, (yX8_length, cX8_length, 1, 1, 0)) := zi_pg_of zm_1601 rfl (fun h => by cases h) zk_1601
set_option maxRecDepth 100000 in
theorem zk_1602 : zi_chk cX8_addFour false 8 0 kX8_addFour = true := by decide +kernel
theorem zp_1602 : zi_pg (1602, (yX8_addFour, cX8_addFour, 3, 2, 1)) := zi_pg_of zm_1602 rfl (fun h => by cases h) zk_1602
set_option maxRecDepth 100000 in
theorem zk_1603 : zi_chk cX8_cutTo false 8 0 kX8_cutTo = true := by decide +kernel
theorem zp_1603 : zi_pg (1603, (yX8_cutTo, cX8_cutTo, 2, 2, 1)) := zi_pg_of zm_1603 rfl (fun h => by cases h) zk_1603
set_option maxRecDepth 100000 in
theorem zk_1604 : zi_chk cX8_clear false 8 0 kX8_clear = true := by decide +kernel
theorem zp_1604 : zi_pg (1604, (yX8_clear, cX8_clear, 1, 0, 0)) := zi_pg_of zm_1604 rfl (fun h => by cases h) zk_1604
set_option maxRecDepth 100000 in
theorem zk_1605 : zi_chk cX8_open false 8 0 kX8_open = true := by decide +kernel
theorem zp_1605 : zi_pg (1605, (yX8_open, cX8_open, 2, 0, 1)) := zi_pg_of zm_1605 rfl (fun h => by cases h) zk_1605
set_option maxRecDepth 100000 in
theorem zk_1606 : zi_chk cX8_look false 8 0 kX8_look = true := by decide +kernel
theorem zp_1606 : zi_pg (1606, (yX8_look, cX8_look, 1, 1, 0)) := zi_pg_of zm_1606 rfl (fun h => by cases h) zk_1606
set_option maxRecDepth 100000 in
theorem zk_1607 : zi_chk cX8_step false 8 0 kX8_step = true := by decide +kernel
theorem zp_1607 : zi_pg (1607, (yX8_step, cX8_step, 1, 0, 0)) := zi_pg_of zm_1607 rfl (fun h => by cases h) zk_1607
set_option maxRecDepth 100000 in
theorem zk_1608 : zi_chk cX8_over false 8 0 kX8_over = true := by decide +kernel
theorem zp_1608 : zi_pg (1608, (yX8_over, cX8_over, 1, 2, 0)) := zi_pg_of zm_1608 rfl (fun h => by cases h) zk_1608
set_option maxRecDepth 100000 in
theorem zk_1609 : zi_chk cX8_fault false 8 0 kX8_fault = true := by decide +kernel
theorem zp_1609 : zi_pg (1609, (yX8_fault, cX8_fault, 1, 1, 0)) := zi_pg_of zm_1609 rfl (fun h => by cases h) zk_1609
set_option maxRecDepth 100000 in
theorem zk_1610 : zi_chk cX8_take false 8 0 kX8_take = true := by decide +kernel
theorem zp_1610 : zi_pg (1610, (yX8_take, cX8_take, 4, 1, 2)) := zi_pg_of zm_1610 rfl (fun h => by cases h) zk_1610
set_option maxRecDepth 100000 in
theorem zk_1611 : zi_chk cX8_takeNumber false 8 0 kX8_takeNumber = true := by decide +kernel
theorem zp_1611 : zi_pg (1611, (yX8_takeNumber, cX8_takeNumber, 5, 1, 1)) := zi_pg_of zm_1611 rfl (fun h => by cases h) zk_1611
set_option maxRecDepth 100000 in
theorem zk_1800 : zi_chk cX9_init true 9 0 kX9_init = true := by decide +kernel
theorem zp_1800 : zi_pg (1800, (yX9_init, cX9_init, 3, 0, 2)) := zi_pg_of zm_1800 rfl (fun _ => rfl) zk_1800
set_option maxRecDepth 100000 in
theorem zk_1801 : zi_chk cX9_way false 9 0 kX9_way = true := by decide +kernel
theorem zp_1801 : zi_pg (1801, (yX9_way, cX9_way, 4, 1, 3)) := zi_pg_of zm_1801 rfl (fun h => by cases h) zk_1801
set_option maxRecDepth 100000 in
theorem zk_1802 : zi_chk cX9_lockAhead false 9 0 kX9_lockAhead = true := by decide +kernel
theorem zp_1802 : zi_pg (1802, (yX9_lockAhead, cX9_lockAhead, 5, 1, 3)) := zi_pg_of zm_1802 rfl (fun h => by cases h) zk_1802
set_option maxRecDepth 100000 in
theorem zk_1803 : zi_chk cX9_hindrance false 9 0 kX9_hindrance = true := by decide +kernel
theorem zp_1803 : zi_pg (1803, (yX9_hindrance, cX9_hindrance, 5, 1, 3)) := zi_pg_of zm_1803 rfl (fun h => by cases h) zk_1803
set_option maxRecDepth 100000 in
theorem zk_1804 : zi_chk cX9_waterFor false 9 0 kX9_waterFor = true := by decide +kernel
theorem zp_1804 : zi_pg (1804, (yX9_waterFor, cX9_waterFor, 3, 1, 3)) := zi_pg_of zm_1804 rfl (fun h => by cases h) zk_1804
set_option maxRecDepth 100000 in
theorem zk_1805 : zi_chk cX9_go false 9 0 kX9_go = true := by decide +kernel
theorem zp_1805 : zi_pg (1805, (yX9_go, cX9_go, 9, 1, 3)) := zi_pg_of zm_1805 rfl (fun h => by cases h) zk_1805
set_option maxRecDepth 100000 in
theorem zk_1806 : zi_chk cX9_minutesFor false 9 0 kX9_minutesFor = true := by decide +kernel
theorem zp_1806 : zi_pg (1806, (yX9_minutesFor, cX9_minutesFor, 7, 1, 4)) := zi_pg_of zm_1806 rfl (fun h => by cases h) zk_1806
set_option maxRecDepth 100000 in
theorem zk_1807 : zi_chk cX9_travel false 9 0 kX9_travel = true := by decide +kernel
theorem zp_1807 : zi_pg (1807, (yX9_travel, cX9_travel, 7, 1, 3)) := zi_pg_of zm_1807 rfl (fun h => by cases h) zk_1807
set_option maxRecDepth 100000 in
theorem zk_1808 : zi_chk cX9_findWays false 9 0 kX9_findWays = true := by decide +kernel
theorem zp_1808 : zi_pg (1808, (yX9_findWays, cX9_findWays, 3, 0, 1)) := zi_pg_of zm_1808 rfl (fun h => by cases h) zk_1808
set_option maxRecDepth 100000 in
theorem zk_1809 : zi_chk cX9_chordAhead false 9 0 kX9_chordAhead = true := by decide +kernel
theorem zp_1809 : zi_pg (1809, (yX9_chordAhead, cX9_chordAhead, 5, 1, 3)) := zi_pg_of zm_1809 rfl (fun h => by cases h) zk_1809
set_option maxRecDepth 100000 in
theorem zk_1810 : zi_chk cX9_keptBy false 9 0 kX9_keptBy = true := by decide +kernel
theorem zp_1810 : zi_pg (1810, (yX9_keptBy, cX9_keptBy, 7, 1, 1)) := zi_pg_of zm_1810 rfl (fun h => by cases h) zk_1810
set_option maxRecDepth 100000 in
theorem zk_2000 : zi_chk cX10_init true 10 0 kX10_init = true := by decide +kernel
theorem zp_2000 : zi_pg (2000, (yX10_init, cX10_init, 1, 0, 0)) := zi_pg_of zm_2000 rfl (fun _ => rfl) zk_2000
set_option maxRecDepth 100000 in
theorem zk_2001 : zi_chk cX10_read false 10 0 kX10_read = true := by decide +kernel
theorem zp_2001 : zi_pg (2001, (yX10_read, cX10_read, 3, 1, 1)) := zi_pg_of zm_2001 rfl (fun h => by cases h) zk_2001
set_option maxRecDepth 100000 in
theorem zk_2002 : zi_chk cX10_order false 10 0 kX10_order = true := by decide +kernel
theorem zp_2002 : zi_pg (2002, (yX10_order, cX10_order, 8, 1, 2)) := zi_pg_of zm_2002 rfl (fun h => by cases h) zk_2002
set_option maxRecDepth 100000 in
theorem zk_2003 : zi_chk cX10_goesUpNext false 10 0 kX10_goesUpNext = true := by decide +kernel
theorem zp_2003 : zi_pg (2003, (yX10_goesUpNext, cX10_goesUpNext, 6, 2, 3)) := zi_pg_of zm_2003 rfl (fun h => by cases h) zk_2003
set_option maxRecDepth 100000 in
theorem zk_2004 : zi_chk cX10_findCosts false 10 0 kX10_findCosts = true := by decide +kernel
theorem zp_2004 : zi_pg (2004, (yX10_findCosts, cX10_findCosts, 4, 0, 0)) := zi_pg_of zm_2004 rfl (fun h => by cases h) zk_2004
set_option maxRecDepth 100000 in
theorem zk_2005 : zi_chk cX10_costNext false 10 0 kX10_costNext = true := by decide +kernel
theorem zp_2005 : zi_pg (2005, (yX10_costNext, cX10_costNext, 5, 1, 3)) := zi_pg_of zm_2005 rfl (fun h => by cases h) zk_2005
set_option maxRecDepth 100000 in
theorem zk_2006 : zi_chk cX10_upCost false 10 0 kX10_upCost = true := by decide +kernel
theorem zp_2006 : zi_pg (2006, (yX10_upCost, cX10_upCost, 4, 1, 3)) := zi_pg_of zm_2006 rfl (fun h => by cases h) zk_2006
set_option maxRecDepth 100000 in
theorem zk_2007 : zi_chk cX10_downCost false 10 0 kX10_downCost = true := by decide +kernel
theorem zp_2007 : zi_pg (2007, (yX10_downCost, cX10_downCost, 4, 1, 3)) := zi_pg_of zm_2007 rfl (fun h => by cases h) zk_2007
set_option maxRecDepth 100000 in
theorem zk_2008 : zi_chk cX10_costAfter false 10 0 kX10_costAfter = true := by decide +kernel
theorem zp_2008 : zi_pg (2008, (yX10_costAfter, cX10_costAfter, 4, 1, 3)) := zi_pg_of zm_2008 rfl (fun h => by cases h) zk_2008
set_option maxRecDepth 100000 in
theorem zk_2009 : zi_chk cX10_slot false 10 0 kX10_slot = true := by decide +kernel
theorem zp_2009 : zi_pg (2009, (yX10_slot, cX10_slot, 3, 1, 3)) := zi_pg_of zm_2009 rfl (fun h => by cases h) zk_2009
set_option maxRecDepth 100000 in
theorem zk_2200 : zi_chk cX11_init true 11 0 kX11_init = true := by decide +kernel
theorem zp_2200 : zi_pg (2200, (yX11_init, cX11_init, 2, 0, 0)) := zi_pg_of zm_2200 rfl (fun _ => rfl) zk_2200
set_option maxRecDepth 100000 in
theorem zk_2201 : zi_chk cX11_sign false 11 0 kX11_sign = true := by decide +kernel
theorem zp_2201 : zi_pg (2201, (yX11_sign, cX11_sign, 2, 1, 1)) := zi_pg_of zm_2201 rfl (fun h => by cases h) zk_2201
set_option maxRecDepth 100000 in
theorem zk_2202 : zi_chk cX11_end false 11 0 kX11_end = true := by decide +kernel
theorem zp_2202 : zi_pg (2202, (yX11_end, cX11_end, 2, 2, 1)) := zi_pg_of zm_2202 rfl (fun h => by cases h) zk_2202
set_option maxRecDepth 100000 in
theorem zk_2203 : zi_chk cX11_locks false 11 0 kX11_locks = true := by decide +kernel
theorem zp_2203 : zi_pg (2203, (yX11_locks, cX11_locks, 1, 1, 0)) := zi_pg_of zm_2203 rfl (fun h => by cases h) zk_2203
set_option maxRecDepth 100000 in
theorem zk_2204 : zi_chk cX11_singers false 11 0 kX11_singers = true := by decide +kernel
theorem zp_2204 : zi_pg (2204, (yX11_singers, cX11_singers, 1, 1, 0)) := zi_pg_of zm_2204 rfl (fun h => by cases h) zk_2204
set_option maxRecDepth 100000 in
theorem zk_2205 : zi_chk cX11_barges false 11 0 kX11_barges = true := by decide +kernel
theorem zp_2205 : zi_pg (2205, (yX11_barges, cX11_barges, 1, 1, 0)) := zi_pg_of zm_2205 rfl (fun h => by cases h) zk_2205
set_option maxRecDepth 100000 in
theorem zk_2206 : zi_chk cX11_rule false 11 0 kX11_rule = true := by decide +kernel
theorem zp_2206 : zi_pg (2206, (yX11_rule, cX11_rule, 2, 1, 0)) := zi_pg_of zm_2206 rfl (fun h => by cases h) zk_2206
set_option maxRecDepth 100000 in
theorem zk_2207 : zi_chk cX11_lock false 11 0 kX11_lock = true := by decide +kernel
theorem zp_2207 : zi_pg (2207, (yX11_lock, cX11_lock, 3, 1, 2)) := zi_pg_of zm_2207 rfl (fun h => by cases h) zk_2207
set_option maxRecDepth 100000 in
theorem zk_2208 : zi_chk cX11_singer false 11 0 kX11_singer = true := by decide +kernel
theorem zp_2208 : zi_pg (2208, (yX11_singer, cX11_singer, 3, 1, 2)) := zi_pg_of zm_2208 rfl (fun h => by cases h) zk_2208
set_option maxRecDepth 100000 in
theorem zk_2209 : zi_chk cX11_barge false 11 0 kX11_barge = true := by decide +kernel
theorem zp_2209 : zi_pg (2209, (yX11_barge, cX11_barge, 3, 1, 2)) := zi_pg_of zm_2209 rfl (fun h => by cases h) zk_2209
set_option maxRecDepth 100000 in
theorem zk_2210 : zi_chk cX11_set false 11 0 kX11_set = true := by decide +kernel
theorem zp_2210 : zi_pg (2210, (yX11_set, cX11_set, 4, 1, 2)) := zi_pg_of zm_2210 rfl (fun h => by cases h) zk_2210
set_option maxRecDepth 100000 in
theorem zk_2211 : zi_chk cX11_sheet false 11 0 kX11_sheet = true := by decide +kernel
theorem zp_2211 : zi_pg (2211, (yX11_sheet, cX11_sheet, 5, 1, 4)) := zi_pg_of zm_2211 rfl (fun h => by cases h) zk_2211
set_option maxRecDepth 100000 in
theorem zk_2212 : zi_chk cX11_tellOf false 11 0 kX11_tellOf = true := by decide +kernel
theorem zp_2212 : zi_pg (2212, (yX11_tellOf, cX11_tellOf, 4, 1, 2)) := zi_pg_of zm_2212 rfl (fun h => by cases h) zk_2212
set_option maxRecDepth 100000 in
theorem zk_2213 : zi_chk cX11_readLines false 11 0 kX11_readLines = true := by decide +kernel
theorem zp_2213 : zi_pg (2213, (yX11_readLines, cX11_readLines, 5, 1, 1)) := zi_pg_of zm_2213 rfl (fun h => by cases h) zk_2213
set_option maxRecDepth 100000 in
theorem zk_2214 : zi_chk cX11_hire false 11 0 kX11_hire = true := by decide +kernel
theorem zp_2214 : zi_pg (2214, (yX11_hire, cX11_hire, 3, 1, 2)) := zi_pg_of zm_2214 rfl (fun h => by cases h) zk_2214
set_option maxRecDepth 100000 in
theorem zk_2215 : zi_chk cX11_leave false 11 0 kX11_leave = true := by decide +kernel
theorem zp_2215 : zi_pg (2215, (yX11_leave, cX11_leave, 2, 1, 1)) := zi_pg_of zm_2215 rfl (fun h => by cases h) zk_2215
set_option maxRecDepth 100000 in
theorem zk_2216 : zi_chk cX11_pass false 11 0 kX11_pass = true := by decide +kernel
theorem zp_2216 : zi_pg (2216, (yX11_pass, cX11_pass, 4, 1, 2)) := zi_pg_of zm_2216 rfl (fun h => by cases h) zk_2216
set_option maxRecDepth 100000 in
theorem zk_2217 : zi_chk cX11_rest false 11 0 kX11_rest = true := by decide +kernel
theorem zp_2217 : zi_pg (2217, (yX11_rest, cX11_rest, 2, 1, 1)) := zi_pg_of zm_2217 rfl (fun h => by cases h) zk_2217
set_option maxRecDepth 100000 in
theorem zk_2218 : zi_chk cX11_day false 11 0 kX11_day = true := by decide +kernel
theorem zp_2218 : zi_pg (2218, (yX11_day, cX11_day, 6, 1, 0)) := zi_pg_of zm_2218 rfl (fun h => by cases h) zk_2218
set_option maxRecDepth 100000 in
theorem zk_2219 : zi_chk cX11_undo false 11 0 kX11_undo = true := by decide +kernel
theorem zp_2219 : zi_pg (2219, (yX11_undo, cX11_undo, 1, 1, 0)) := zi_pg_of zm_2219 rfl (fun h => by cases h) zk_2219
set_option maxRecDepth 100000 in
theorem zk_2220 : zi_chk cX11_remember false 11 0 kX11_remember = true := by decide +kernel
theorem zp_2220 : zi_pg (2220, (yX11_remember, cX11_remember, 2, 1, 1)) := zi_pg_of zm_2220 rfl (fun h => by cases h) zk_2220
set_option maxRecDepth 100000 in
theorem zk_2221 : zi_chk cX11_takeOn false 11 0 kX11_takeOn = true := by decide +kernel
theorem zp_2221 : zi_pg (2221, (yX11_takeOn, cX11_takeOn, 3, 1, 2)) := zi_pg_of zm_2221 rfl (fun h => by cases h) zk_2221
set_option maxRecDepth 100000 in
theorem zk_2222 : zi_chk cX11_letGo false 11 0 kX11_letGo = true := by decide +kernel
theorem zp_2222 : zi_pg (2222, (yX11_letGo, cX11_letGo, 3, 1, 1)) := zi_pg_of zm_2222 rfl (fun h => by cases h) zk_2222
set_option maxRecDepth 100000 in
theorem zk_2223 : zi_chk cX11_takeRest false 11 0 kX11_takeRest = true := by decide +kernel
theorem zp_2223 : zi_pg (2223, (yX11_takeRest, cX11_takeRest, 2, 1, 1)) := zi_pg_of zm_2223 rfl (fun h => by cases h) zk_2223
set_option maxRecDepth 100000 in
theorem zk_2224 : zi_chk cX11_readActs false 11 0 kX11_readActs = true := by decide +kernel
theorem zp_2224 : zi_pg (2224, (yX11_readActs, cX11_readActs, 3, 1, 0)) := zi_pg_of zm_2224 rfl (fun h => by cases h) zk_2224
set_option maxRecDepth 100000 in
theorem zk_2225 : zi_chk cX11_readAct false 11 0 kX11_readAct = true := by decide +kernel
theorem zp_2225 : zi_pg (2225, (yX11_readAct, cX11_readAct, 4, 1, 0)) := zi_pg_of zm_2225 rfl (fun h => by cases h) zk_2225
set_option maxRecDepth 100000 in
theorem zk_2226 : zi_chk cX11_isPass false 11 0 kX11_isPass = true := by decide +kernel
theorem zp_2226 : zi_pg (2226, (yX11_isPass, cX11_isPass, 2, 2, 1)) := zi_pg_of zm_2226 rfl (fun h => by cases h) zk_2226
set_option maxRecDepth 100000 in
theorem zk_2227 : zi_chk cX11_perform false 11 0 kX11_perform = true := by decide +kernel
theorem zp_2227 : zi_pg (2227, (yX11_perform, cX11_perform, 3, 1, 1)) := zi_pg_of zm_2227 rfl (fun h => by cases h) zk_2227
set_option maxRecDepth 100000 in
theorem zk_2228 : zi_chk cX11_sings false 11 0 kX11_sings = true := by decide +kernel
theorem zp_2228 : zi_pg (2228, (yX11_sings, cX11_sings, 3, 1, 2)) := zi_pg_of zm_2228 rfl (fun h => by cases h) zk_2228
set_option maxRecDepth 100000 in
theorem zk_2229 : zi_chk cX11_lacks false 11 0 kX11_lacks = true := by decide +kernel
theorem zp_2229 : zi_pg (2229, (yX11_lacks, cX11_lacks, 4, 1, 2)) := zi_pg_of zm_2229 rfl (fun h => by cases h) zk_2229
set_option maxRecDepth 100000 in
theorem zk_2230 : zi_chk cX11_spoils false 11 0 kX11_spoils = true := by decide +kernel
theorem zp_2230 : zi_pg (2230, (yX11_spoils, cX11_spoils, 4, 1, 2)) := zi_pg_of zm_2230 rfl (fun h => by cases h) zk_2230
set_option maxRecDepth 100000 in
theorem zk_2231 : zi_chk cX11_shift false 11 0 kX11_shift = true := by decide +kernel
theorem zp_2231 : zi_pg (2231, (yX11_shift, cX11_shift, 5, 1, 2)) := zi_pg_of zm_2231 rfl (fun h => by cases h) zk_2231
set_option maxRecDepth 100000 in
theorem zk_2232 : zi_chk cX11_voices false 11 0 kX11_voices = true := by decide +kernel
theorem zp_2232 : zi_pg (2232, (yX11_voices, cX11_voices, 4, 1, 2)) := zi_pg_of zm_2232 rfl (fun h => by cases h) zk_2232
set_option maxRecDepth 100000 in
theorem zk_2233 : zi_chk cX11_singsShifted false 11 0 kX11_singsShifted = true := by decide +kernel
theorem zp_2233 : zi_pg (2233, (yX11_singsShifted, cX11_singsShifted, 4, 2, 3)) := zi_pg_of zm_2233 rfl (fun h => by cases h) zk_2233
set_option maxRecDepth 100000 in
theorem zk_2234 : zi_chk cX11_tellSong false 11 0 kX11_tellSong = true := by decide +kernel
theorem zp_2234 : zi_pg (2234, (yX11_tellSong, cX11_tellSong, 2, 0, 0)) := zi_pg_of zm_2234 rfl (fun h => by cases h) zk_2234
set_option maxRecDepth 100000 in
theorem zk_2235 : zi_chk cX11_tellHired false 11 0 kX11_tellHired = true := by decide +kernel
theorem zp_2235 : zi_pg (2235, (yX11_tellHired, cX11_tellHired, 2, 1, 1)) := zi_pg_of zm_2235 rfl (fun h => by cases h) zk_2235
set_option maxRecDepth 100000 in
theorem zk_2236 : zi_chk cX11_journey false 11 0 kX11_journey = true := by decide +kernel
theorem zp_2236 : zi_pg (2236, (yX11_journey, cX11_journey, 4, 1, 2)) := zi_pg_of zm_2236 rfl (fun h => by cases h) zk_2236
set_option maxRecDepth 100000 in
theorem zk_2237 : zi_chk cX11_hires false 11 0 kX11_hires = true := by decide +kernel
theorem zp_2237 : zi_pg (2237, (yX11_hires, cX11_hires, 8, 1, 2)) := zi_pg_of zm_2237 rfl (fun h => by cases h) zk_2237
set_option maxRecDepth 100000 in
theorem zk_2238 : zi_chk cX11_rested false 11 0 kX11_rested = true := by decide +kernel
theorem zp_2238 : zi_pg (2238, (yX11_rested, cX11_rested, 5, 1, 2)) := zi_pg_of zm_2238 rfl (fun h => by cases h) zk_2238
set_option maxRecDepth 100000 in
theorem zk_2239 : zi_chk cX11_queue false 11 0 kX11_queue = true := by decide +kernel
theorem zp_2239 : zi_pg (2239, (yX11_queue, cX11_queue, 3, 1, 1)) := zi_pg_of zm_2239 rfl (fun h => by cases h) zk_2239
set_option maxRecDepth 100000 in
theorem zk_2240 : zi_chk cX11_jams false 11 0 kX11_jams = true := by decide +kernel
theorem zp_2240 : zi_pg (2240, (yX11_jams, cX11_jams, 7, 1, 0)) := zi_pg_of zm_2240 rfl (fun h => by cases h) zk_2240
set_option maxRecDepth 100000 in
theorem zk_2241 : zi_chk cX11_heard false 11 0 kX11_heard = true := by decide +kernel
theorem zp_2241 : zi_pg (2241, (yX11_heard, cX11_heard, 3, 1, 2)) := zi_pg_of zm_2241 rfl (fun h => by cases h) zk_2241
end
section
/-! ===== printed: the code of each method ===== -/
set_option maxRecDepth 100000 in
theorem zk_2242 : zi_chk cX11_forget false 11 0 kX11_forget = true := by decide +kernel
theorem zp_2242 : zi_pg (2242, (yX11_forget, cX11_forget, 2, 1, 0)) := zi_pg_of zm_2242 rfl (fun h => by cases h) zk_2242
set_option maxRecDepth 100000 in
theorem zk_2243 : zi_chk cX11_who false 11 0 kX11_who = true := by decide +kernel
theorem zp_2243 : zi_pg (2243, (yX11_who, cX11_who, 2, 1, 0)) := zi_pg_of zm_2243 rfl (fun h => by cases h) zk_2243
set_option maxRecDepth 100000 in
theorem zk_2244 : zi_chk cX11_listen false 11 0 kX11_listen = true := by decide +kernel
theorem zp_2244 : zi_pg (2244, (yX11_listen, cX11_listen, 6, 1, 0)) := zi_pg_of zm_2244 rfl (fun h => by cases h) zk_2244
set_option maxRecDepth 100000 in
theorem zk_2245 : zi_chk cX11_parts false 11 0 kX11_parts = true := by decide +kernel
theorem zp_2245 : zi_pg (2245, (yX11_parts, cX11_parts, 2, 1, 0)) := zi_pg_of zm_2245 rfl (fun h => by cases h) zk_2245
set_option maxRecDepth 100000 in
theorem zk_2246 : zi_chk cX11_opens false 11 0 kX11_opens = true := by decide +kernel
theorem zp_2246 : zi_pg (2246, (yX11_opens, cX11_opens, 9, 1, 2)) := zi_pg_of zm_2246 rfl (fun h => by cases h) zk_2246
set_option maxRecDepth 100000 in
theorem zk_2247 : zi_chk cX11_tries false 11 0 kX11_tries = true := by decide +kernel
theorem zp_2247 : zi_pg (2247, (yX11_tries, cX11_tries, 4, 1, 2)) := zi_pg_of zm_2247 rfl (fun h => by cases h) zk_2247
set_option maxRecDepth 100000 in
theorem zk_2248 : zi_chk cX11_rests false 11 0 kX11_rests = true := by decide +kernel
theorem zp_2248 : zi_pg (2248, (yX11_rests, cX11_rests, 5, 1, 1)) := zi_pg_of zm_2248 rfl (fun h => by cases h) zk_2248
set_option maxRecDepth 100000 in
theorem zk_2249 : zi_chk cX11_pays false 11 0 kX11_pays = true := by decide +kernel
theorem zp_2249 : zi_pg (2249, (yX11_pays, cX11_pays, 9, 1, 2)) := zi_pg_of zm_2249 rfl (fun h => by cases h) zk_2249
set_option maxRecDepth 100000 in
theorem zk_2250 : zi_chk cX11_tellFirstPair false 11 0 kX11_tellFirstPair = true := by decide +kernel
theorem zp_2250 : zi_pg (2250, (yX11_tellFirstPair, cX11_tellFirstPair, 4, 0, 3)) := zi_pg_of zm_2250 rfl (fun h => by cases h) zk_2250
set_option maxRecDepth 100000 in
theorem zk_2251 : zi_chk cX11_chances false 11 0 kX11_chances = true := by decide +kernel
theorem zp_2251 : zi_pg (2251, (yX11_chances, cX11_chances, 4, 3, 2)) := zi_pg_of zm_2251 rfl (fun h => by cases h) zk_2251
set_option maxRecDepth 100000 in
theorem zk_2252 : zi_chk cX11_power false 11 0 kX11_power = true := by decide +kernel
theorem zp_2252 : zi_pg (2252, (yX11_power, cX11_power, 6, 3, 2)) := zi_pg_of zm_2252 rfl (fun h => by cases h) zk_2252
set_option maxRecDepth 100000 in
theorem zk_2253 : zi_chk cX11_commonDivisor false 11 0 kX11_commonDivisor = true := by decide +kernel
theorem zp_2253 : zi_pg (2253, (yX11_commonDivisor, cX11_commonDivisor, 7, 3, 2)) := zi_pg_of zm_2253 rfl (fun h => by cases h) zk_2253
set_option maxRecDepth 100000 in
theorem zk_2254 : zi_chk cX11_isBest false 11 0 kX11_isBest = true := by decide +kernel
theorem zp_2254 : zi_pg (2254, (yX11_isBest, cX11_isBest, 5, 2, 3)) := zi_pg_of zm_2254 rfl (fun h => by cases h) zk_2254
set_option maxRecDepth 100000 in
theorem zk_2255 : zi_chk cX11_gain false 11 0 kX11_gain = true := by decide +kernel
theorem zp_2255 : zi_pg (2255, (yX11_gain, cX11_gain, 3, 1, 3)) := zi_pg_of zm_2255 rfl (fun h => by cases h) zk_2255
set_option maxRecDepth 100000 in
theorem zk_2256 : zi_chk cX11_days false 11 0 kX11_days = true := by decide +kernel
theorem zp_2256 : zi_pg (2256, (yX11_days, cX11_days, 8, 1, 2)) := zi_pg_of zm_2256 rfl (fun h => by cases h) zk_2256
set_option maxRecDepth 100000 in
theorem zk_2257 : zi_chk cX11_drawNext false 11 0 kX11_drawNext = true := by decide +kernel
theorem zp_2257 : zi_pg (2257, (yX11_drawNext, cX11_drawNext, 1, 1, 1)) := zi_pg_of zm_2257 rfl (fun h => by cases h) zk_2257
set_option maxRecDepth 100000 in
theorem zk_2258 : zi_chk cX11_keep false 11 0 kX11_keep = true := by decide +kernel
theorem zp_2258 : zi_pg (2258, (yX11_keep, cX11_keep, 2, 2, 1)) := zi_pg_of zm_2258 rfl (fun h => by cases h) zk_2258
set_option maxRecDepth 100000 in
theorem zk_2259 : zi_chk cX11_again false 11 0 kX11_again = true := by decide +kernel
theorem zp_2259 : zi_pg (2259, (yX11_again, cX11_again, 2, 2, 1)) := zi_pg_of zm_2259 rfl (fun h => by cases h) zk_2259
set_option maxRecDepth 100000 in
theorem zk_2260 : zi_chk cX11_count false 11 0 kX11_count = true := by decide +kernel
theorem zp_2260 : zi_pg (2260, (yX11_count, cX11_count, 2, 1, 1)) := zi_pg_of zm_2260 rfl (fun h => by cases h) zk_2260
set_option maxRecDepth 100000 in
theorem zk_2261 : zi_chk cX11_row false 11 0 kX11_row = true := by decide +kernel
theorem zp_2261 : zi_pg (2261, (yX11_row, cX11_row, 2, 3, 1)) := zi_pg_of zm_2261 rfl (fun h => by cases h) zk_2261
set_option maxRecDepth 100000 in
theorem zk_2400 : zi_chk cX12_init true 12 0 kX12_init = true := by decide +kernel
theorem zp_2400 : zi_pg (2400, (yX12_init, cX12_init, 1, 0, 0)) := zi_pg_of zm_2400 rfl (fun _ => rfl) zk_2400
set_option maxRecDepth 100000 in
theorem zk_2401 : zi_chk cX12_thrown false 12 0 kX12_thrown = true := by decide +kernel
theorem zp_2401 : zi_pg (2401, (yX12_thrown, cX12_thrown, 1, 1, 0)) := zi_pg_of zm_2401 rfl (fun h => by cases h) zk_2401
set_option maxRecDepth 100000 in
theorem zk_2402 : zi_chk cX12_refuse false 12 0 kX12_refuse = true := by decide +kernel
theorem zp_2402 : zi_pg (2402, (yX12_refuse, cX12_refuse, 1, 1, 0)) := zi_pg_of zm_2402 rfl (fun h => by cases h) zk_2402
set_option maxRecDepth 100000 in
theorem zk_2403 : zi_chk cX12_in false 12 0 kX12_in = true := by decide +kernel
theorem zp_2403 : zi_pg (2403, (yX12_in, cX12_in, 6, 2, 3)) := zi_pg_of zm_2403 rfl (fun h => by cases h) zk_2403
set_option maxRecDepth 100000 in
theorem zk_2404 : zi_chk cX12_has false 12 0 kX12_has = true := by decide +kernel
theorem zp_2404 : zi_pg (2404, (yX12_has, cX12_has, 2, 2, 2)) := zi_pg_of zm_2404 rfl (fun h => by cases h) zk_2404
set_option maxRecDepth 100000 in
theorem zk_2405 : zi_chk cX12_flag false 12 0 kX12_flag = true := by decide +kernel
theorem zp_2405 : zi_pg (2405, (yX12_flag, cX12_flag, 1, 1, 1)) := zi_pg_of zm_2405 rfl (fun h => by cases h) zk_2405
set_option maxRecDepth 100000 in
theorem zk_2406 : zi_chk cX12_common false 12 0 kX12_common = true := by decide +kernel
theorem zp_2406 : zi_pg (2406, (yX12_common, cX12_common, 4, 3, 2)) := zi_pg_of zm_2406 rfl (fun h => by cases h) zk_2406
set_option maxRecDepth 100000 in
theorem zk_2407 : zi_chk cX12_enters false 12 0 kX12_enters = true := by decide +kernel
theorem zp_2407 : zi_pg (2407, (yX12_enters, cX12_enters, 3, 0, 1)) := zi_pg_of zm_2407 rfl (fun h => by cases h) zk_2407
set_option maxRecDepth 100000 in
theorem zk_2408 : zi_chk cX12_isLock false 12 0 kX12_isLock = true := by decide +kernel
theorem zp_2408 : zi_pg (2408, (yX12_isLock, cX12_isLock, 2, 2, 1)) := zi_pg_of zm_2408 rfl (fun h => by cases h) zk_2408
set_option maxRecDepth 100000 in
theorem zk_2409 : zi_chk cX12_isSinger false 12 0 kX12_isSinger = true := by decide +kernel
theorem zp_2409 : zi_pg (2409, (yX12_isSinger, cX12_isSinger, 2, 2, 1)) := zi_pg_of zm_2409 rfl (fun h => by cases h) zk_2409
set_option maxRecDepth 100000 in
theorem zk_2410 : zi_chk cX12_isBarge false 12 0 kX12_isBarge = true := by decide +kernel
theorem zp_2410 : zi_pg (2410, (yX12_isBarge, cX12_isBarge, 2, 2, 1)) := zi_pg_of zm_2410 rfl (fun h => by cases h) zk_2410
set_option maxRecDepth 100000 in
theorem zk_2411 : zi_chk cX12_isPlace false 12 0 kX12_isPlace = true := by decide +kernel
theorem zp_2411 : zi_pg (2411, (yX12_isPlace, cX12_isPlace, 2, 2, 1)) := zi_pg_of zm_2411 rfl (fun h => by cases h) zk_2411
set_option maxRecDepth 100000 in
theorem zk_2412 : zi_chk cX12_placeOf false 12 0 kX12_placeOf = true := by decide +kernel
theorem zp_2412 : zi_pg (2412, (yX12_placeOf, cX12_placeOf, 2, 1, 2)) := zi_pg_of zm_2412 rfl (fun h => by cases h) zk_2412
set_option maxRecDepth 100000 in
theorem zk_2413 : zi_chk cX12_crewOf false 12 0 kX12_crewOf = true := by decide +kernel
theorem zp_2413 : zi_pg (2413, (yX12_crewOf, cX12_crewOf, 2, 1, 2)) := zi_pg_of zm_2413 rfl (fun h => by cases h) zk_2413
set_option maxRecDepth 100000 in
theorem zk_2414 : zi_chk cX12_tiredOf false 12 0 kX12_tiredOf = true := by decide +kernel
theorem zp_2414 : zi_pg (2414, (yX12_tiredOf, cX12_tiredOf, 2, 1, 2)) := zi_pg_of zm_2414 rfl (fun h => by cases h) zk_2414
set_option maxRecDepth 100000 in
theorem zk_2415 : zi_chk cX12_crew false 12 0 kX12_crew = true := by decide +kernel
theorem zp_2415 : zi_pg (2415, (yX12_crew, cX12_crew, 5, 1, 2)) := zi_pg_of zm_2415 rfl (fun h => by cases h) zk_2415
set_option maxRecDepth 100000 in
theorem zk_2416 : zi_chk cX12_whereIs false 12 0 kX12_whereIs = true := by decide +kernel
theorem zp_2416 : zi_pg (2416, (yX12_whereIs, cX12_whereIs, 3, 1, 1)) := zi_pg_of zm_2416 rfl (fun h => by cases h) zk_2416
set_option maxRecDepth 100000 in
theorem zk_2417 : zi_chk cX12_sign false 12 0 kX12_sign = true := by decide +kernel
theorem zp_2417 : zi_pg (2417, (yX12_sign, cX12_sign, 3, 1, 1)) := zi_pg_of zm_2417 rfl (fun h => by cases h) zk_2417
set_option maxRecDepth 100000 in
theorem zk_2418 : zi_chk cX12_end false 12 0 kX12_end = true := by decide +kernel
theorem zp_2418 : zi_pg (2418, (yX12_end, cX12_end, 2, 2, 1)) := zi_pg_of zm_2418 rfl (fun h => by cases h) zk_2418
set_option maxRecDepth 100000 in
theorem zk_2419 : zi_chk cX12_begins false 12 0 kX12_begins = true := by decide +kernel
theorem zp_2419 : zi_pg (2419, (yX12_begins, cX12_begins, 3, 1, 1)) := zi_pg_of zm_2419 rfl (fun h => by cases h) zk_2419
set_option maxRecDepth 100000 in
theorem zk_2420 : zi_chk cX12_takes false 12 0 kX12_takes = true := by decide +kernel
theorem zp_2420 : zi_pg (2420, (yX12_takes, cX12_takes, 3, 2, 1)) := zi_pg_of zm_2420 rfl (fun h => by cases h) zk_2420
set_option maxRecDepth 100000 in
theorem zk_2421 : zi_chk cX12_isDigit false 12 0 kX12_isDigit = true := by decide +kernel
theorem zp_2421 : zi_pg (2421, (yX12_isDigit, cX12_isDigit, 1, 2, 0)) := zi_pg_of zm_2421 rfl (fun h => by cases h) zk_2421
set_option maxRecDepth 100000 in
theorem zk_2422 : zi_chk cX12_among false 12 0 kX12_among = true := by decide +kernel
theorem zp_2422 : zi_pg (2422, (yX12_among, cX12_among, 3, 1, 1)) := zi_pg_of zm_2422 rfl (fun h => by cases h) zk_2422
set_option maxRecDepth 100000 in
theorem zk_2423 : zi_chk cX12_takesOf false 12 0 kX12_takesOf = true := by decide +kernel
theorem zp_2423 : zi_pg (2423, (yX12_takesOf, cX12_takesOf, 3, 1, 1)) := zi_pg_of zm_2423 rfl (fun h => by cases h) zk_2423
set_option maxRecDepth 100000 in
theorem zk_2424 : zi_chk cX12_number false 12 0 kX12_number = true := by decide +kernel
theorem zp_2424 : zi_pg (2424, (yX12_number, cX12_number, 4, 1, 1)) := zi_pg_of zm_2424 rfl (fun h => by cases h) zk_2424
set_option maxRecDepth 100000 in
theorem zk_2425 : zi_chk cX12_signIn false 12 0 kX12_signIn = true := by decide +kernel
theorem zp_2425 : zi_pg (2425, (yX12_signIn, cX12_signIn, 4, 1, 3)) := zi_pg_of zm_2425 rfl (fun h => by cases h) zk_2425
set_option maxRecDepth 100000 in
theorem zk_2426 : zi_chk cX12_faultOf false 12 0 kX12_faultOf = true := by decide +kernel
theorem zp_2426 : zi_pg (2426, (yX12_faultOf, cX12_faultOf, 5, 1, 3)) := zi_pg_of zm_2426 rfl (fun h => by cases h) zk_2426
set_option maxRecDepth 100000 in
theorem zk_2427 : zi_chk cX12_readsLock false 12 0 kX12_readsLock = true := by decide +kernel
theorem zp_2427 : zi_pg (2427, (yX12_readsLock, cX12_readsLock, 3, 2, 0)) := zi_pg_of zm_2427 rfl (fun h => by cases h) zk_2427
set_option maxRecDepth 100000 in
theorem zk_2428 : zi_chk cX12_readsSinger false 12 0 kX12_readsSinger = true := by decide +kernel
theorem zp_2428 : zi_pg (2428, (yX12_readsSinger, cX12_readsSinger, 2, 2, 0)) := zi_pg_of zm_2428 rfl (fun h => by cases h) zk_2428
set_option maxRecDepth 100000 in
theorem zk_2429 : zi_chk cX12_readsBarge false 12 0 kX12_readsBarge = true := by decide +kernel
theorem zp_2429 : zi_pg (2429, (yX12_readsBarge, cX12_readsBarge, 2, 2, 0)) := zi_pg_of zm_2429 rfl (fun h => by cases h) zk_2429
set_option maxRecDepth 100000 in
theorem zk_2430 : zi_chk cX12_readsLines false 12 0 kX12_readsLines = true := by decide +kernel
theorem zp_2430 : zi_pg (2430, (yX12_readsLines, cX12_readsLines, 6, 1, 2)) := zi_pg_of zm_2430 rfl (fun h => by cases h) zk_2430
set_option maxRecDepth 100000 in
theorem zk_2431 : zi_chk cX12_came false 12 0 kX12_came = true := by decide +kernel
theorem zp_2431 : zi_pg (2431, (yX12_came, cX12_came, 1, 1, 0)) := zi_pg_of zm_2431 rfl (fun h => by cases h) zk_2431
set_option maxRecDepth 100000 in
theorem zk_2432 : zi_chk cX12_locks false 12 0 kX12_locks = true := by decide +kernel
theorem zp_2432 : zi_pg (2432, (yX12_locks, cX12_locks, 4, 1, 0)) := zi_pg_of zm_2432 rfl (fun h => by cases h) zk_2432
set_option maxRecDepth 100000 in
theorem zk_2433 : zi_chk cX12_singers false 12 0 kX12_singers = true := by decide +kernel
theorem zp_2433 : zi_pg (2433, (yX12_singers, cX12_singers, 3, 1, 0)) := zi_pg_of zm_2433 rfl (fun h => by cases h) zk_2433
set_option maxRecDepth 100000 in
theorem zk_2434 : zi_chk cX12_barges false 12 0 kX12_barges = true := by decide +kernel
theorem zp_2434 : zi_pg (2434, (yX12_barges, cX12_barges, 3, 1, 0)) := zi_pg_of zm_2434 rfl (fun h => by cases h) zk_2434
set_option maxRecDepth 100000 in
theorem zk_2435 : zi_chk cX12_codes false 12 0 kX12_codes = true := by decide +kernel
theorem zp_2435 : zi_pg (2435, (yX12_codes, cX12_codes, 2, 0, 1)) := zi_pg_of zm_2435 rfl (fun h => by cases h) zk_2435
set_option maxRecDepth 100000 in
theorem zk_2436 : zi_chk cX12_readsThing false 12 0 kX12_readsThing = true := by decide +kernel
theorem zp_2436 : zi_pg (2436, (yX12_readsThing, cX12_readsThing, 2, 2, 0)) := zi_pg_of zm_2436 rfl (fun h => by cases h) zk_2436
set_option maxRecDepth 100000 in
theorem zk_2437 : zi_chk cX12_readsRank false 12 0 kX12_readsRank = true := by decide +kernel
theorem zp_2437 : zi_pg (2437, (yX12_readsRank, cX12_readsRank, 4, 2, 1)) := zi_pg_of zm_2437 rfl (fun h => by cases h) zk_2437
set_option maxRecDepth 100000 in
theorem zk_2438 : zi_chk cX12_rule false 12 0 kX12_rule = true := by decide +kernel
theorem zp_2438 : zi_pg (2438, (yX12_rule, cX12_rule, 5, 1, 0)) := zi_pg_of zm_2438 rfl (fun h => by cases h) zk_2438
set_option maxRecDepth 100000 in
theorem zk_2439 : zi_chk cX12_worked false 12 0 kX12_worked = true := by decide +kernel
theorem zp_2439 : zi_pg (2439, (yX12_worked, cX12_worked, 3, 1, 3)) := zi_pg_of zm_2439 rfl (fun h => by cases h) zk_2439
set_option maxRecDepth 100000 in
theorem zk_2440 : zi_chk cX12_ruled false 12 0 kX12_ruled = true := by decide +kernel
theorem zp_2440 : zi_pg (2440, (yX12_ruled, cX12_ruled, 4, 1, 0)) := zi_pg_of zm_2440 rfl (fun h => by cases h) zk_2440
set_option maxRecDepth 100000 in
theorem zk_2441 : zi_chk cX12_tiredAll false 12 0 kX12_tiredAll = true := by decide +kernel
theorem zp_2441 : zi_pg (2441, (yX12_tiredAll, cX12_tiredAll, 5, 1, 2)) := zi_pg_of zm_2441 rfl (fun h => by cases h) zk_2441
set_option maxRecDepth 100000 in
theorem zk_2442 : zi_chk cX12_minutes false 12 0 kX12_minutes = true := by decide +kernel
theorem zp_2442 : zi_pg (2442, (yX12_minutes, cX12_minutes, 6, 1, 4)) := zi_pg_of zm_2442 rfl (fun h => by cases h) zk_2442
set_option maxRecDepth 100000 in
theorem zk_2443 : zi_chk cX12_laysNotes false 12 0 kX12_laysNotes = true := by decide +kernel
theorem zp_2443 : zi_pg (2443, (yX12_laysNotes, cX12_laysNotes, 4, 0, 2)) := zi_pg_of zm_2443 rfl (fun h => by cases h) zk_2443
set_option maxRecDepth 100000 in
theorem zk_2444 : zi_chk cX12_canSing false 12 0 kX12_canSing = true := by decide +kernel
theorem zp_2444 : zi_pg (2444, (yX12_canSing, cX12_canSing, 4, 2, 3)) := zi_pg_of zm_2444 rfl (fun h => by cases h) zk_2444
set_option maxRecDepth 100000 in
theorem zk_2445 : zi_chk cX12_singsFrom false 12 0 kX12_singsFrom = true := by decide +kernel
theorem zp_2445 : zi_pg (2445, (yX12_singsFrom, cX12_singsFrom, 6, 2, 4)) := zi_pg_of zm_2445 rfl (fun h => by cases h) zk_2445
set_option maxRecDepth 100000 in
theorem zk_2446 : zi_chk cX12_singsChord false 12 0 kX12_singsChord = true := by decide +kernel
theorem zp_2446 : zi_pg (2446, (yX12_singsChord, cX12_singsChord, 4, 2, 3)) := zi_pg_of zm_2446 rfl (fun h => by cases h) zk_2446
set_option maxRecDepth 100000 in
theorem zk_2447 : zi_chk cX12_tellsSung false 12 0 kX12_tellsSung = true := by decide +kernel
theorem zp_2447 : zi_pg (2447, (yX12_tellsSung, cX12_tellsSung, 2, 0, 0)) := zi_pg_of zm_2447 rfl (fun h => by cases h) zk_2447
set_option maxRecDepth 100000 in
theorem zk_2448 : zi_chk cX12_lock false 12 0 kX12_lock = true := by decide +kernel
theorem zp_2448 : zi_pg (2448, (yX12_lock, cX12_lock, 3, 1, 2)) := zi_pg_of zm_2448 rfl (fun h => by cases h) zk_2448
set_option maxRecDepth 100000 in
theorem zk_2449 : zi_chk cX12_singer false 12 0 kX12_singer = true := by decide +kernel
theorem zp_2449 : zi_pg (2449, (yX12_singer, cX12_singer, 3, 1, 2)) := zi_pg_of zm_2449 rfl (fun h => by cases h) zk_2449
set_option maxRecDepth 100000 in
theorem zk_2450 : zi_chk cX12_barge false 12 0 kX12_barge = true := by decide +kernel
theorem zp_2450 : zi_pg (2450, (yX12_barge, cX12_barge, 3, 1, 2)) := zi_pg_of zm_2450 rfl (fun h => by cases h) zk_2450
set_option maxRecDepth 100000 in
theorem zk_2451 : zi_chk cX12_set false 12 0 kX12_set = true := by decide +kernel
theorem zp_2451 : zi_pg (2451, (yX12_set, cX12_set, 4, 1, 2)) := zi_pg_of zm_2451 rfl (fun h => by cases h) zk_2451
set_option maxRecDepth 100000 in
theorem zk_2452 : zi_chk cX12_sheet false 12 0 kX12_sheet = true := by decide +kernel
theorem zp_2452 : zi_pg (2452, (yX12_sheet, cX12_sheet, 9, 1, 4)) := zi_pg_of zm_2452 rfl (fun h => by cases h) zk_2452
set_option maxRecDepth 100000 in
theorem zk_2453 : zi_chk cX12_putsBy false 12 0 kX12_putsBy = true := by decide +kernel
theorem zp_2453 : zi_pg (2453, (yX12_putsBy, cX12_putsBy, 2, 0, 0)) := zi_pg_of zm_2453 rfl (fun h => by cases h) zk_2453
set_option maxRecDepth 100000 in
theorem zk_2454 : zi_chk cX12_adds false 12 0 kX12_adds = true := by decide +kernel
theorem zp_2454 : zi_pg (2454, (yX12_adds, cX12_adds, 3, 1, 1)) := zi_pg_of zm_2454 rfl (fun h => by cases h) zk_2454
end
section
/-! ===== printed: the code of each method ===== -/
set_option maxRecDepth 100000 in
theorem zk_2455 : zi_chk cX12_counts false 12 0 kX12_counts = true := by decide +kernel
theorem zp_2455 : zi_pg (2455, (yX12_counts, cX12_counts, 2, 1, 1)) := zi_pg_of zm_2455 rfl (fun h => by cases h) zk_2455
set_option maxRecDepth 100000 in
theorem zk_2456 : zi_chk cX12_undo false 12 0 kX12_undo = true := by decide +kernel
theorem zp_2456 : zi_pg (2456, (yX12_undo, cX12_undo, 2, 1, 0)) := zi_pg_of zm_2456 rfl (fun h => by cases h) zk_2456
set_option maxRecDepth 100000 in
theorem zk_2457 : zi_chk cX12_hiresTo false 12 0 kX12_hiresTo = true := by decide +kernel
theorem zp_2457 : zi_pg (2457, (yX12_hiresTo, cX12_hiresTo, 5, 1, 3)) := zi_pg_of zm_2457 rfl (fun h => by cases h) zk_2457
set_option maxRecDepth 100000 in
theorem zk_2458 : zi_chk cX12_leaves false 12 0 kX12_leaves = true := by decide +kernel
theorem zp_2458 : zi_pg (2458, (yX12_leaves, cX12_leaves, 4, 1, 2)) := zi_pg_of zm_2458 rfl (fun h => by cases h) zk_2458
set_option maxRecDepth 100000 in
theorem zk_2459 : zi_chk cX12_waterFor false 12 0 kX12_waterFor = true := by decide +kernel
theorem zp_2459 : zi_pg (2459, (yX12_waterFor, cX12_waterFor, 2, 1, 2)) := zi_pg_of zm_2459 rfl (fun h => by cases h) zk_2459
set_option maxRecDepth 100000 in
theorem zk_2460 : zi_chk cX12_whyNot false 12 0 kX12_whyNot = true := by decide +kernel
theorem zp_2460 : zi_pg (2460, (yX12_whyNot, cX12_whyNot, 5, 1, 3)) := zi_pg_of zm_2460 rfl (fun h => by cases h) zk_2460
set_option maxRecDepth 100000 in
theorem zk_2461 : zi_chk cX12_passes false 12 0 kX12_passes = true := by decide +kernel
theorem zp_2461 : zi_pg (2461, (yX12_passes, cX12_passes, 9, 1, 3)) := zi_pg_of zm_2461 rfl (fun h => by cases h) zk_2461
set_option maxRecDepth 100000 in
theorem zk_2462 : zi_chk cX12_restsFor false 12 0 kX12_restsFor = true := by decide +kernel
theorem zp_2462 : zi_pg (2462, (yX12_restsFor, cX12_restsFor, 5, 0, 2)) := zi_pg_of zm_2462 rfl (fun h => by cases h) zk_2462
set_option maxRecDepth 100000 in
theorem zk_2463 : zi_chk cX12_hire false 12 0 kX12_hire = true := by decide +kernel
theorem zp_2463 : zi_pg (2463, (yX12_hire, cX12_hire, 3, 1, 2)) := zi_pg_of zm_2463 rfl (fun h => by cases h) zk_2463
set_option maxRecDepth 100000 in
theorem zk_2464 : zi_chk cX12_leave false 12 0 kX12_leave = true := by decide +kernel
theorem zp_2464 : zi_pg (2464, (yX12_leave, cX12_leave, 2, 1, 1)) := zi_pg_of zm_2464 rfl (fun h => by cases h) zk_2464
set_option maxRecDepth 100000 in
theorem zk_2465 : zi_chk cX12_pass false 12 0 kX12_pass = true := by decide +kernel
theorem zp_2465 : zi_pg (2465, (yX12_pass, cX12_pass, 4, 1, 2)) := zi_pg_of zm_2465 rfl (fun h => by cases h) zk_2465
set_option maxRecDepth 100000 in
theorem zk_2466 : zi_chk cX12_rest false 12 0 kX12_rest = true := by decide +kernel
theorem zp_2466 : zi_pg (2466, (yX12_rest, cX12_rest, 2, 1, 1)) := zi_pg_of zm_2466 rfl (fun h => by cases h) zk_2466
set_option maxRecDepth 100000 in
theorem zk_2467 : zi_chk cX12_readsAct false 12 0 kX12_readsAct = true := by decide +kernel
theorem zp_2467 : zi_pg (2467, (yX12_readsAct, cX12_readsAct, 2, 2, 0)) := zi_pg_of zm_2467 rfl (fun h => by cases h) zk_2467
set_option maxRecDepth 100000 in
theorem zk_2468 : zi_chk cX12_does false 12 0 kX12_does = true := by decide +kernel
theorem zp_2468 : zi_pg (2468, (yX12_does, cX12_does, 4, 2, 1)) := zi_pg_of zm_2468 rfl (fun h => by cases h) zk_2468
set_option maxRecDepth 100000 in
theorem zk_2469 : zi_chk cX12_day false 12 0 kX12_day = true := by decide +kernel
theorem zp_2469 : zi_pg (2469, (yX12_day, cX12_day, 6, 1, 0)) := zi_pg_of zm_2469 rfl (fun h => by cases h) zk_2469
set_option maxRecDepth 100000 in
theorem zk_2470 : zi_chk cX12_isPair false 12 0 kX12_isPair = true := by decide +kernel
theorem zp_2470 : zi_pg (2470, (yX12_isPair, cX12_isPair, 3, 2, 2)) := zi_pg_of zm_2470 rfl (fun h => by cases h) zk_2470
set_option maxRecDepth 100000 in
theorem zk_2471 : zi_chk cX12_sings false 12 0 kX12_sings = true := by decide +kernel
theorem zp_2471 : zi_pg (2471, (yX12_sings, cX12_sings, 4, 1, 2)) := zi_pg_of zm_2471 rfl (fun h => by cases h) zk_2471
set_option maxRecDepth 100000 in
theorem zk_2472 : zi_chk cX12_lacks false 12 0 kX12_lacks = true := by decide +kernel
theorem zp_2472 : zi_pg (2472, (yX12_lacks, cX12_lacks, 6, 1, 2)) := zi_pg_of zm_2472 rfl (fun h => by cases h) zk_2472
set_option maxRecDepth 100000 in
theorem zk_2473 : zi_chk cX12_spoils false 12 0 kX12_spoils = true := by decide +kernel
theorem zp_2473 : zi_pg (2473, (yX12_spoils, cX12_spoils, 7, 1, 2)) := zi_pg_of zm_2473 rfl (fun h => by cases h) zk_2473
set_option maxRecDepth 100000 in
theorem zk_2474 : zi_chk cX12_isShift false 12 0 kX12_isShift = true := by decide +kernel
theorem zp_2474 : zi_pg (2474, (yX12_isShift, cX12_isShift, 6, 2, 3)) := zi_pg_of zm_2474 rfl (fun h => by cases h) zk_2474
set_option maxRecDepth 100000 in
theorem zk_2475 : zi_chk cX12_shift false 12 0 kX12_shift = true := by decide +kernel
theorem zp_2475 : zi_pg (2475, (yX12_shift, cX12_shift, 5, 1, 2)) := zi_pg_of zm_2475 rfl (fun h => by cases h) zk_2475
set_option maxRecDepth 100000 in
theorem zk_2476 : zi_chk cX12_fees false 12 0 kX12_fees = true := by decide +kernel
theorem zp_2476 : zi_pg (2476, (yX12_fees, cX12_fees, 4, 1, 1)) := zi_pg_of zm_2476 rfl (fun h => by cases h) zk_2476
set_option maxRecDepth 100000 in
theorem zk_2477 : zi_chk cX12_isCheaper false 12 0 kX12_isCheaper = true := by decide +kernel
theorem zp_2477 : zi_pg (2477, (yX12_isCheaper, cX12_isCheaper, 3, 2, 2)) := zi_pg_of zm_2477 rfl (fun h => by cases h) zk_2477
set_option maxRecDepth 100000 in
theorem zk_2478 : zi_chk cX12_voicesOf false 12 0 kX12_voicesOf = true := by decide +kernel
theorem zp_2478 : zi_pg (2478, (yX12_voicesOf, cX12_voicesOf, 7, 1, 3)) := zi_pg_of zm_2478 rfl (fun h => by cases h) zk_2478
set_option maxRecDepth 100000 in
theorem zk_2479 : zi_chk cX12_freeAt false 12 0 kX12_freeAt = true := by decide +kernel
theorem zp_2479 : zi_pg (2479, (yX12_freeAt, cX12_freeAt, 4, 1, 1)) := zi_pg_of zm_2479 rfl (fun h => by cases h) zk_2479
set_option maxRecDepth 100000 in
theorem zk_2480 : zi_chk cX12_voices false 12 0 kX12_voices = true := by decide +kernel
theorem zp_2480 : zi_pg (2480, (yX12_voices, cX12_voices, 4, 1, 2)) := zi_pg_of zm_2480 rfl (fun h => by cases h) zk_2480
set_option maxRecDepth 100000 in
theorem zk_2481 : zi_chk cX12_puts false 12 0 kX12_puts = true := by decide +kernel
theorem zp_2481 : zi_pg (2481, (yX12_puts, cX12_puts, 2, 0, 0)) := zi_pg_of zm_2481 rfl (fun h => by cases h) zk_2481
set_option maxRecDepth 100000 in
theorem zk_2482 : zi_chk cX12_goesTo false 12 0 kX12_goesTo = true := by decide +kernel
theorem zp_2482 : zi_pg (2482, (yX12_goesTo, cX12_goesTo, 4, 1, 2)) := zi_pg_of zm_2482 rfl (fun h => by cases h) zk_2482
set_option maxRecDepth 100000 in
theorem zk_2483 : zi_chk cX12_journey false 12 0 kX12_journey = true := by decide +kernel
theorem zp_2483 : zi_pg (2483, (yX12_journey, cX12_journey, 4, 1, 2)) := zi_pg_of zm_2483 rfl (fun h => by cases h) zk_2483
set_option maxRecDepth 100000 in
theorem zk_2484 : zi_chk cX12_singsAll false 12 0 kX12_singsAll = true := by decide +kernel
theorem zp_2484 : zi_pg (2484, (yX12_singsAll, cX12_singsAll, 9, 2, 3)) := zi_pg_of zm_2484 rfl (fun h => by cases h) zk_2484
set_option maxRecDepth 100000 in
theorem zk_2485 : zi_chk cX12_hires false 12 0 kX12_hires = true := by decide +kernel
theorem zp_2485 : zi_pg (2485, (yX12_hires, cX12_hires, 7, 1, 2)) := zi_pg_of zm_2485 rfl (fun h => by cases h) zk_2485
set_option maxRecDepth 100000 in
theorem zk_2486 : zi_chk cX12_rested false 12 0 kX12_rested = true := by decide +kernel
theorem zp_2486 : zi_pg (2486, (yX12_rested, cX12_rested, 5, 1, 2)) := zi_pg_of zm_2486 rfl (fun h => by cases h) zk_2486
set_option maxRecDepth 100000 in
theorem zk_2487 : zi_chk cX12_spot false 12 0 kX12_spot = true := by decide +kernel
theorem zp_2487 : zi_pg (2487, (yX12_spot, cX12_spot, 3, 1, 3)) := zi_pg_of zm_2487 rfl (fun h => by cases h) zk_2487
set_option maxRecDepth 100000 in
theorem zk_2488 : zi_chk cX12_costOf false 12 0 kX12_costOf = true := by decide +kernel
theorem zp_2488 : zi_pg (2488, (yX12_costOf, cX12_costOf, 2, 1, 2)) := zi_pg_of zm_2488 rfl (fun h => by cases h) zk_2488
set_option maxRecDepth 100000 in
theorem zk_2489 : zi_chk cX12_yetBy false 12 0 kX12_yetBy = true := by decide +kernel
theorem zp_2489 : zi_pg (2489, (yX12_yetBy, cX12_yetBy, 5, 1, 4)) := zi_pg_of zm_2489 rfl (fun h => by cases h) zk_2489
set_option maxRecDepth 100000 in
theorem zk_2490 : zi_chk cX12_laysQueue false 12 0 kX12_laysQueue = true := by decide +kernel
theorem zp_2490 : zi_pg (2490, (yX12_laysQueue, cX12_laysQueue, 5, 0, 0)) := zi_pg_of zm_2490 rfl (fun h => by cases h) zk_2490
set_option maxRecDepth 100000 in
theorem zk_2491 : zi_chk cX12_queue false 12 0 kX12_queue = true := by decide +kernel
theorem zp_2491 : zi_pg (2491, (yX12_queue, cX12_queue, 10, 1, 1)) := zi_pg_of zm_2491 rfl (fun h => by cases h) zk_2491
set_option maxRecDepth 100000 in
theorem zk_2492 : zi_chk cX12_passing false 12 0 kX12_passing = true := by decide +kernel
theorem zp_2492 : zi_pg (2492, (yX12_passing, cX12_passing, 3, 1, 0)) := zi_pg_of zm_2492 rfl (fun h => by cases h) zk_2492
set_option maxRecDepth 100000 in
theorem zk_2493 : zi_chk cX12_jams false 12 0 kX12_jams = true := by decide +kernel
theorem zp_2493 : zi_pg (2493, (yX12_jams, cX12_jams, 9, 1, 0)) := zi_pg_of zm_2493 rfl (fun h => by cases h) zk_2493
set_option maxRecDepth 100000 in
theorem zk_2494 : zi_chk cX12_heard false 12 0 kX12_heard = true := by decide +kernel
theorem zp_2494 : zi_pg (2494, (yX12_heard, cX12_heard, 3, 1, 2)) := zi_pg_of zm_2494 rfl (fun h => by cases h) zk_2494
set_option maxRecDepth 100000 in
theorem zk_2495 : zi_chk cX12_forget false 12 0 kX12_forget = true := by decide +kernel
theorem zp_2495 : zi_pg (2495, (yX12_forget, cX12_forget, 2, 1, 0)) := zi_pg_of zm_2495 rfl (fun h => by cases h) zk_2495
set_option maxRecDepth 100000 in
theorem zk_2496 : zi_chk cX12_singersOf false 12 0 kX12_singersOf = true := by decide +kernel
theorem zp_2496 : zi_pg (2496, (yX12_singersOf, cX12_singersOf, 4, 1, 1)) := zi_pg_of zm_2496 rfl (fun h => by cases h) zk_2496
set_option maxRecDepth 100000 in
theorem zk_2497 : zi_chk cX12_fitting false 12 0 kX12_fitting = true := by decide +kernel
theorem zp_2497 : zi_pg (2497, (yX12_fitting, cX12_fitting, 3, 1, 0)) := zi_pg_of zm_2497 rfl (fun h => by cases h) zk_2497
set_option maxRecDepth 100000 in
theorem zk_2498 : zi_chk cX12_who false 12 0 kX12_who = true := by decide +kernel
theorem zp_2498 : zi_pg (2498, (yX12_who, cX12_who, 2, 1, 0)) := zi_pg_of zm_2498 rfl (fun h => by cases h) zk_2498
set_option maxRecDepth 100000 in
theorem zk_2499 : zi_chk cX12_listen false 12 0 kX12_listen = true := by decide +kernel
theorem zp_2499 : zi_pg (2499, (yX12_listen, cX12_listen, 6, 1, 0)) := zi_pg_of zm_2499 rfl (fun h => by cases h) zk_2499
set_option maxRecDepth 100000 in
theorem zk_2500 : zi_chk cX12_isParted false 12 0 kX12_isParted = true := by decide +kernel
theorem zp_2500 : zi_pg (2500, (yX12_isParted, cX12_isParted, 8, 2, 2)) := zi_pg_of zm_2500 rfl (fun h => by cases h) zk_2500
set_option maxRecDepth 100000 in
theorem zk_2501 : zi_chk cX12_partsBy false 12 0 kX12_partsBy = true := by decide +kernel
theorem zp_2501 : zi_pg (2501, (yX12_partsBy, cX12_partsBy, 7, 1, 4)) := zi_pg_of zm_2501 rfl (fun h => by cases h) zk_2501
set_option maxRecDepth 100000 in
theorem zk_2502 : zi_chk cX12_parts false 12 0 kX12_parts = true := by decide +kernel
theorem zp_2502 : zi_pg (2502, (yX12_parts, cX12_parts, 4, 1, 0)) := zi_pg_of zm_2502 rfl (fun h => by cases h) zk_2502
set_option maxRecDepth 100000 in
theorem zk_2503 : zi_chk cX12_bets false 12 0 kX12_bets = true := by decide +kernel
theorem zp_2503 : zi_pg (2503, (yX12_bets, cX12_bets, 8, 0, 2)) := zi_pg_of zm_2503 rfl (fun h => by cases h) zk_2503
set_option maxRecDepth 100000 in
theorem zk_2504 : zi_chk cX12_opens false 12 0 kX12_opens = true := by decide +kernel
theorem zp_2504 : zi_pg (2504, (yX12_opens, cX12_opens, 5, 1, 2)) := zi_pg_of zm_2504 rfl (fun h => by cases h) zk_2504
set_option maxRecDepth 100000 in
theorem zk_2505 : zi_chk cX12_tries false 12 0 kX12_tries = true := by decide +kernel
theorem zp_2505 : zi_pg (2505, (yX12_tries, cX12_tries, 4, 1, 2)) := zi_pg_of zm_2505 rfl (fun h => by cases h) zk_2505
set_option maxRecDepth 100000 in
theorem zk_2506 : zi_chk cX12_earns false 12 0 kX12_earns = true := by decide +kernel
theorem zp_2506 : zi_pg (2506, (yX12_earns, cX12_earns, 3, 1, 3)) := zi_pg_of zm_2506 rfl (fun h => by cases h) zk_2506
set_option maxRecDepth 100000 in
theorem zk_2507 : zi_chk cX12_isRest false 12 0 kX12_isRest = true := by decide +kernel
theorem zp_2507 : zi_pg (2507, (yX12_isRest, cX12_isRest, 5, 2, 3)) := zi_pg_of zm_2507 rfl (fun h => by cases h) zk_2507
set_option maxRecDepth 100000 in
theorem zk_2508 : zi_chk cX12_rests false 12 0 kX12_rests = true := by decide +kernel
theorem zp_2508 : zi_pg (2508, (yX12_rests, cX12_rests, 5, 1, 1)) := zi_pg_of zm_2508 rfl (fun h => by cases h) zk_2508
set_option maxRecDepth 100000 in
theorem zk_2509 : zi_chk cX12_pays false 12 0 kX12_pays = true := by decide +kernel
theorem zp_2509 : zi_pg (2509, (yX12_pays, cX12_pays, 9, 1, 2)) := zi_pg_of zm_2509 rfl (fun h => by cases h) zk_2509
set_option maxRecDepth 100000 in
theorem zk_2510 : zi_chk cX12_days false 12 0 kX12_days = true := by decide +kernel
theorem zp_2510 : zi_pg (2510, (yX12_days, cX12_days, 8, 1, 2)) := zi_pg_of zm_2510 rfl (fun h => by cases h) zk_2510
set_option maxRecDepth 100000 in
theorem zk_2511 : zi_chk cX12_keep false 12 0 kX12_keep = true := by decide +kernel
theorem zp_2511 : zi_pg (2511, (yX12_keep, cX12_keep, 3, 2, 1)) := zi_pg_of zm_2511 rfl (fun h => by cases h) zk_2511
set_option maxRecDepth 100000 in
theorem zk_2512 : zi_chk cX12_again false 12 0 kX12_again = true := by decide +kernel
theorem zp_2512 : zi_pg (2512, (yX12_again, cX12_again, 3, 2, 1)) := zi_pg_of zm_2512 rfl (fun h => by cases h) zk_2512
set_option maxRecDepth 100000 in
theorem zk_2513 : zi_chk cX12_levels false 12 0 kX12_levels = true := by decide +kernel
theorem zp_2513 : zi_pg (2513, (yX12_levels, cX12_levels, 3, 1, 0)) := zi_pg_of zm_2513 rfl (fun h => by cases h) zk_2513
set_option maxRecDepth 100000 in
theorem zk_2514 : zi_chk cX12_count false 12 0 kX12_count = true := by decide +kernel
theorem zp_2514 : zi_pg (2514, (yX12_count, cX12_count, 2, 1, 1)) := zi_pg_of zm_2514 rfl (fun h => by cases h) zk_2514
set_option maxRecDepth 100000 in
theorem zk_2515 : zi_chk cX12_row false 12 0 kX12_row = true := by decide +kernel
theorem zp_2515 : zi_pg (2515, (yX12_row, cX12_row, 2, 3, 1)) := zi_pg_of zm_2515 rfl (fun h => by cases h) zk_2515
set_option maxRecDepth 100000 in
theorem zk_2800 : zi_chk cJ6_bitCount_0f7a4 false 14 0 kJ6_bitCount_0f7a4 = true := by decide +kernel
theorem zp_2800 : zi_pg (2800, (yJ6_bitCount_0f7a4, cJ6_bitCount_0f7a4, 1, 1, 1)) := zi_pg_of zm_2800 rfl (fun h => by cases h) zk_2800
set_option maxRecDepth 100000 in
theorem zk_3000 : zi_chk cJ0_length_8abf5 false 15 0 kJ0_length_8abf5 = true := by decide +kernel
theorem zp_3000 : zi_pg (3000, (yJ0_length_8abf5, cJ0_length_8abf5, 1, 1, 0)) := zi_pg_of zm_3000 rfl (fun h => by cases h) zk_3000
set_option maxRecDepth 100000 in
theorem zk_3001 : zi_chk cJ0_charAt_5068e false 15 0 kJ0_charAt_5068e = true := by decide +kernel
theorem zp_3001 : zi_pg (3001, (yJ0_charAt_5068e, cJ0_charAt_5068e, 2, 4, 1)) := zi_pg_of zm_3001 rfl (fun h => by cases h) zk_3001
set_option maxRecDepth 100000 in
theorem zk_3002 : zi_chk cJ0_indexOf_0f7a4 false 15 0 kJ0_indexOf_0f7a4 = true := by decide +kernel
theorem zp_3002 : zi_pg (3002, (yJ0_indexOf_0f7a4, cJ0_indexOf_0f7a4, 2, 1, 1)) := zi_pg_of zm_3002 rfl (fun h => by cases h) zk_3002
set_option maxRecDepth 100000 in
theorem zk_3003 : zi_chk cJ0_indexOf_7cf53 false 15 0 kJ0_indexOf_7cf53 = true := by decide +kernel
theorem zp_3003 : zi_pg (3003, (yJ0_indexOf_7cf53, cJ0_indexOf_7cf53, 3, 1, 2)) := zi_pg_of zm_3003 rfl (fun h => by cases h) zk_3003
set_option maxRecDepth 100000 in
theorem zk_3004 : zi_chk cJ0_coder_7d493 false 15 0 kJ0_coder_7d493 = true := by decide +kernel
theorem zp_3004 : zi_pg (3004, (yJ0_coder_7d493, cJ0_coder_7d493, 1, 5, 0)) := zi_pg_of zm_3004 rfl (fun h => by cases h) zk_3004
set_option maxRecDepth 100000 in
theorem zk_3005 : zi_chk cJ0_isLatin1_aae02 false 15 0 kJ0_isLatin1_aae02 = true := by decide +kernel
theorem zp_3005 : zi_pg (3005, (yJ0_isLatin1_aae02, cJ0_isLatin1_aae02, 1, 2, 0)) := zi_pg_of zm_3005 rfl (fun h => by cases h) zk_3005
set_option maxRecDepth 100000 in
theorem zk_3200 : zi_chk cJ1_charAt_3b067 false 16 0 kJ1_charAt_3b067 = true := by decide +kernel
theorem zp_3200 : zi_pg (3200, (yJ1_charAt_3b067, cJ1_charAt_3b067, 2, 4, 2)) := zi_pg_of zm_3200 rfl (fun h => by cases h) zk_3200
set_option maxRecDepth 100000 in
theorem zk_3201 : zi_chk cJ1_canEncode_9a6ad false 16 0 kJ1_canEncode_9a6ad = true := by decide +kernel
theorem zp_3201 : zi_pg (3201, (yJ1_canEncode_9a6ad, cJ1_canEncode_9a6ad, 1, 2, 1)) := zi_pg_of zm_3201 rfl (fun h => by cases h) zk_3201
set_option maxRecDepth 100000 in
theorem zk_3202 : zi_chk cJ1_indexOf_4cfef false 16 0 kJ1_indexOf_4cfef = true := by decide +kernel
theorem zp_3202 : zi_pg (3202, (yJ1_indexOf_4cfef, cJ1_indexOf_4cfef, 4, 1, 4)) := zi_pg_of zm_3202 rfl (fun h => by cases h) zk_3202
set_option maxRecDepth 100000 in
theorem zk_3203 : zi_chk cJ1_indexOfChar_4cfef false 16 0 kJ1_indexOfChar_4cfef = true := by decide +kernel
theorem zp_3203 : zi_pg (3203, (yJ1_indexOfChar_4cfef, cJ1_indexOfChar_4cfef, 6, 1, 4)) := zi_pg_of zm_3203 rfl (fun h => by cases h) zk_3203
end
section
set_option maxRecDepth 100000 in
theorem zi_pg_0 : ∀ e ∈ zi_ml_0, zi_pg e := List.forall_mem_cons.mpr ⟨zp_0, List.forall_mem_cons.mpr ⟨zp_1, List.forall_mem_cons.mpr ⟨zp_2, List.forall_mem_cons.mpr ⟨zp_3, List.forall_mem_cons.mpr ⟨zp_4, List.forall_mem_cons.mpr ⟨zp_5, List.forall_mem_cons.mpr ⟨zp_6, List.forall_mem_cons.mpr ⟨zp_7, List.forall_mem_cons.mpr ⟨zp_8, List.forall_mem_cons.mpr ⟨zp_9, List.forall_mem_cons.mpr ⟨zp_10, List.forall_mem_cons.mpr ⟨zp_11, List.forall_mem_cons.mpr ⟨zp_12, List.forall_mem_cons.mpr ⟨zp_13, List.forall_mem_cons.mpr ⟨zp_14, List.forall_mem_cons.mpr ⟨zp_15, List.forall_mem_cons.mpr ⟨zp_16, List.forall_mem_cons.mpr ⟨zp_17, List.forall_mem_cons.mpr ⟨zp_18, List.forall_mem_cons.mpr ⟨zp_19, List.forall_mem_cons.mpr ⟨zp_20, fun _ h => absurd h List.not_mem_nil⟩⟩⟩⟩⟩⟩⟩⟩⟩⟩⟩⟩⟩⟩⟩⟩⟩⟩⟩⟩⟩
set_option maxRecDepth 100000 in
theorem zi_pg_1 : ∀ e ∈ zi_ml_1, zi_pg e := List.forall_mem_cons.mpr ⟨zp_200, List.forall_mem_cons.mpr ⟨zp_201, List.forall_mem_cons.mpr ⟨zp_202, List.forall_mem_cons.mpr ⟨zp_203, List.forall_mem_cons.mpr ⟨zp_204, List.forall_mem_cons.mpr ⟨zp_205, List.forall_mem_cons.mpr ⟨zp_206, List.forall_mem_cons.mpr ⟨zp_207, fun _ h => absurd h List.not_mem_nil⟩⟩⟩⟩⟩⟩⟩⟩
set_option maxRecDepth 100000 in
theorem zi_pg_2 : ∀ e ∈ zi_ml_2, zi_pg e := List.forall_mem_cons.mpr ⟨zp_400, List.forall_mem_cons.mpr ⟨zp_401, List.forall_mem_cons.mpr ⟨zp_402, List.forall_mem_cons.mpr ⟨zp_403, List.forall_mem_cons.mpr ⟨zp_404, fun _ h => absurd h List.not_mem_nil⟩⟩⟩⟩⟩
set_option maxRecDepth 100000 in
theorem zi_pg_3 : ∀ e ∈ zi_ml_3, zi_pg e := List.forall_mem_cons.mpr ⟨zp_600, List.forall_mem_cons.mpr ⟨zp_601, List.forall_mem_cons.mpr ⟨zp_602, List.forall_mem_cons.mpr ⟨zp_603, List.forall_mem_cons.mpr ⟨zp_604, List.forall_mem_cons.mpr ⟨zp_605, fun _ h => absurd h List.not_mem_nil⟩⟩⟩⟩⟩⟩
set_option maxRecDepth 100000 in
theorem zi_pg_4 : ∀ e ∈ zi_ml_4, zi_pg e := List.forall_mem_cons.mpr ⟨zp_800, List.forall_mem_cons.mpr ⟨zp_801, List.forall_mem_cons.mpr ⟨zp_802, List.forall_mem_cons.mpr ⟨zp_803, List.forall_mem_cons.mpr ⟨zp_804, List.forall_mem_cons.mpr ⟨zp_805, List.forall_mem_cons.mpr ⟨zp_806, List.forall_mem_cons.mpr ⟨zp_807, List.forall_mem_cons.mpr ⟨zp_808, List.forall_mem_cons.mpr ⟨zp_809, List.forall_mem_cons.mpr ⟨zp_810, List.forall_mem_cons.mpr ⟨zp_811, fun _ h => absurd h List.not_mem_nil⟩⟩⟩⟩⟩⟩⟩⟩⟩⟩⟩⟩
set_option maxRecDepth 100000 in
theorem zi_pg_5 : ∀ e ∈ zi_ml_5, zi_pg e := List.forall_mem_cons.mpr ⟨zp_1000, List.forall_mem_cons.mpr ⟨zp_1001, List.forall_mem_cons.mpr ⟨zp_1002, List.forall_mem_cons.mpr ⟨zp_1003, List.forall_mem_cons.mpr ⟨zp_1004, List.forall_mem_cons.mpr ⟨zp_1005, fun _ h => absurd h List.not_mem_nil⟩⟩⟩⟩⟩⟩
set_option maxRecDepth 100000 in
theorem zi_pg_6 : ∀ e ∈ zi_ml_6, zi_pg e := List.forall_mem_cons.mpr ⟨zp_1200, List.forall_mem_cons.mpr ⟨zp_1201, List.forall_mem_cons.mpr ⟨zp_1202, List.forall_mem_cons.mpr ⟨zp_1203, List.forall_mem_cons.mpr ⟨zp_1204, fun _ h => absurd h List.not_mem_nil⟩⟩⟩⟩⟩
set_option maxRecDepth 100000 in
theorem zi_pg_7 : ∀ e ∈ zi_ml_7, zi_pg e := List.forall_mem_cons.mpr ⟨zp_1400, List.forall_mem_cons.mpr ⟨zp_1401, List.forall_mem_cons.mpr ⟨zp_1402, List.forall_mem_cons.mpr ⟨zp_1403, List.forall_mem_cons.mpr ⟨zp_1404, List.forall_mem_cons.mpr ⟨zp_1405, List.forall_mem_cons.mpr ⟨zp_1406, List.forall_mem_cons.mpr ⟨zp_1407, List.forall_mem_cons.mpr ⟨zp_1408, List.forall_mem_cons.mpr ⟨zp_1409, List.forall_mem_cons.mpr ⟨zp_1410, List.forall_mem_cons.mpr ⟨zp_1411, fun _ h => absurd h List.not_mem_nil⟩⟩⟩⟩⟩⟩⟩⟩⟩⟩⟩⟩
set_option maxRecDepth 100000 in
theorem zi_pg_8 : ∀ e ∈ zi_ml_8, zi_pg e := List.forall_mem_cons.mpr ⟨zp_1600, List.forall_mem_cons.mpr ⟨zp_1601, List.forall_mem_cons.mpr ⟨zp_1602, List.forall_mem_cons.mpr ⟨zp_1603, List.forall_mem_cons.mpr ⟨zp_1604, List.forall_mem_cons.mpr ⟨zp_1605, List.forall_mem_cons.mpr ⟨zp_1606, List.forall_mem_cons.mpr ⟨zp_1607, List.forall_mem_cons.mpr ⟨zp_1608, List.forall_mem_cons.mpr ⟨zp_1609, List.forall_mem_cons.mpr ⟨zp_1610, List.forall_mem_cons.mpr ⟨zp_1611, fun _ h => absurd h List.not_mem_nil⟩⟩⟩⟩⟩⟩⟩⟩⟩⟩⟩⟩
set_option maxRecDepth 100000 in
theorem zi_pg_9 : ∀ e ∈ zi_ml_9, zi_pg e := List.forall_mem_cons.mpr ⟨zp_1800, List.forall_mem_cons.mpr ⟨zp_1801, List.forall_mem_cons.mpr ⟨zp_1802, List.forall_mem_cons.mpr ⟨zp_1803, List.forall_mem_cons.mpr ⟨zp_1804, List.forall_mem_cons.mpr ⟨zp_1805, List.forall_mem_cons.mpr ⟨zp_1806, List.forall_mem_cons.mpr ⟨zp_1807, List.forall_mem_cons.mpr ⟨zp_1808, List.forall_mem_cons.mpr ⟨zp_1809, List.forall_mem_cons.mpr ⟨zp_1810, fun _ h => absurd h List.not_mem_nil⟩⟩⟩⟩⟩⟩⟩⟩⟩⟩⟩
set_option maxRecDepth 100000 in
theorem zi_pg_10 : ∀ e ∈ zi_ml_10, zi_pg e := List.forall_mem_cons.mpr ⟨zp_2000, List.forall_mem_cons.mpr ⟨zp_2001, List.forall_mem_cons.mpr ⟨zp_2002, List.forall_mem_cons.mpr ⟨zp_2003, List.forall_mem_cons.mpr ⟨zp_2004, List.forall_mem_cons.mpr ⟨zp_2005, List.forall_mem_cons.mpr ⟨zp_2006, List.forall_mem_cons.mpr ⟨zp_2007, List.forall_mem_cons.mpr ⟨zp_2008, List.forall_mem_cons.mpr ⟨zp_2009, fun _ h => absurd h List.not_mem_nil⟩⟩⟩⟩⟩⟩⟩⟩⟩⟩
set_option maxRecDepth 100000 in
theorem zi_pg_11 : ∀ e ∈ zi_ml_11, zi_pg e := List.forall_mem_cons.mpr ⟨zp_2200, List.forall_mem_cons.mpr ⟨zp_2201, List.forall_mem_cons.mpr ⟨zp_2202, List.forall_mem_cons.mpr ⟨zp_2203, List.forall_mem_cons.mpr ⟨zp_2204, List.forall_mem_cons.mpr ⟨zp_2205, List.forall_mem_cons.mpr ⟨zp_2206, List.forall_mem_cons.mpr ⟨zp_2207, List.forall_mem_cons.mpr ⟨zp_2208, List.forall_mem_cons.mpr ⟨zp_2209, List.forall_mem_cons.mpr ⟨zp_2210, List.forall_mem_cons.mpr ⟨zp_2211, List.forall_mem_cons.mpr ⟨zp_2212, List.forall_mem_cons.mpr ⟨zp_2213, List.forall_mem_cons.mpr ⟨zp_2214, List.forall_mem_cons.mpr ⟨zp_2215, List.forall_mem_cons.mpr ⟨zp_2216, List.forall_mem_cons.mpr ⟨zp_2217, List.forall_mem_cons.mpr ⟨zp_2218, List.forall_mem_cons.mpr ⟨zp_2219, List.forall_mem_cons.mpr ⟨zp_2220, List.forall_mem_cons.mpr ⟨zp_2221, List.forall_mem_cons.mpr ⟨zp_2222, List.forall_mem_cons.mpr ⟨zp_2223, List.forall_mem_cons.mpr ⟨zp_2224, List.forall_mem_cons.mpr ⟨zp_2225, List.forall_mem_cons.mpr ⟨zp_2226, List.forall_mem_cons.mpr ⟨zp_2227, List.forall_mem_cons.mpr ⟨zp_2228, List.forall_mem_cons.mpr ⟨zp_2229, List.forall_mem_cons.mpr ⟨zp_2230, List.forall_mem_cons.mpr ⟨zp_2231, List.forall_mem_cons.mpr ⟨zp_2232, List.forall_mem_cons.mpr ⟨zp_2233, List.forall_mem_cons.mpr ⟨zp_2234, List.forall_mem_cons.mpr ⟨zp_2235, List.forall_mem_cons.mpr ⟨zp_2236, List.forall_mem_cons.mpr ⟨zp_2237, List.forall_mem_cons.mpr ⟨zp_2238, List.forall_mem_cons.mpr ⟨zp_2239, List.forall_mem_cons.mpr ⟨zp_2240, List.forall_mem_cons.mpr ⟨zp_2241, List.forall_mem_cons.mpr ⟨zp_2242, List.forall_mem_cons.mpr ⟨zp_2243, List.forall_mem_cons.mpr ⟨zp_2244, List.forall_mem_cons.mpr ⟨zp_2245, List.forall_mem_cons.mpr ⟨zp_2246, List.forall_mem_cons.mpr ⟨zp_2247, List.forall_mem_cons.mpr ⟨zp_2248, List.forall_mem_cons.mpr ⟨zp_2249, List.forall_mem_cons.mpr ⟨zp_2250, List.forall_mem_cons.mpr ⟨zp_2251, List.forall_mem_cons.mpr ⟨zp_2252, List.forall_mem_cons.mpr ⟨zp_2253, List.forall_mem_cons.mpr ⟨zp_2254, List.forall_mem_cons.mpr ⟨zp_2255, List.forall_mem_cons.mpr ⟨zp_2256, List.forall_mem_cons.mpr ⟨zp_2257, List.forall_mem_cons.mpr ⟨zp_2258, List.forall_mem_cons.mpr ⟨zp_2259, List.forall_mem_cons.mpr ⟨zp_2260, List.forall_mem_cons.mpr ⟨zp_2261, fun _ h => absurd h List.not_mem_nil⟩⟩⟩⟩⟩⟩⟩⟩⟩⟩⟩⟩⟩⟩⟩⟩⟩⟩⟩⟩⟩⟩⟩⟩⟩⟩⟩⟩⟩⟩⟩⟩⟩⟩⟩⟩⟩⟩⟩⟩⟩⟩⟩⟩⟩⟩⟩⟩⟩⟩⟩⟩⟩⟩⟩⟩⟩⟩⟩⟩⟩⟩
set_option maxRecDepth 100000 in
theorem zi_pg_12 : ∀ e ∈ zi_ml_12, zi_pg e := List.forall_mem_cons.mpr ⟨zp_2400, List.forall_mem_cons.mpr ⟨zp_2401, List.forall_mem_cons.mpr ⟨zp_2402, List.forall_mem_cons.mpr ⟨zp_2403, List.forall_mem_cons.mpr ⟨zp_2404, List.forall_mem_cons.mpr ⟨zp_2405, List.forall_mem_cons.mpr ⟨zp_2406, List.forall_mem_cons.mpr ⟨zp_2407, List.forall_mem_cons.mpr ⟨zp_2408, List.forall_mem_cons.mpr ⟨zp_2409, List.forall_mem_cons.mpr ⟨zp_2410, List.forall_mem_cons.mpr ⟨zp_2411, List.forall_mem_cons.mpr ⟨zp_2412, List.forall_mem_cons.mpr ⟨zp_2413, List.forall_mem_cons.mpr ⟨zp_2414, List.forall_mem_cons.mpr ⟨zp_2415, List.forall_mem_cons.mpr ⟨zp_2416, List.forall_mem_cons.mpr ⟨zp_2417, List.forall_mem_cons.mpr ⟨zp_2418, List.forall_mem_cons.mpr ⟨zp_2419, List.forall_mem_cons.mpr ⟨zp_2420, List.forall_mem_cons.mpr ⟨zp_2421, List.forall_mem_cons.mpr ⟨zp_2422, List.forall_mem_cons.mpr ⟨zp_2423, List.forall_mem_cons.mpr ⟨zp_2424, List.forall_mem_cons.mpr ⟨zp_2425, List.forall_mem_cons.mpr ⟨zp_2426, List.forall_mem_cons.mpr ⟨zp_2427, List.forall_mem_cons.mpr ⟨zp_2428, List.forall_mem_cons.mpr ⟨zp_2429, List.forall_mem_cons.mpr ⟨zp_2430, List.forall_mem_cons.mpr ⟨zp_2431, List.forall_mem_cons.mpr ⟨zp_2432, List.forall_mem_cons.mpr ⟨zp_2433, List.forall_mem_cons.mpr ⟨zp_2434, List.forall_mem_cons.mpr ⟨zp_2435, List.forall_mem_cons.mpr ⟨zp_2436, List.forall_mem_cons.mpr ⟨zp_2437, List.forall_mem_cons.mpr ⟨zp_2438, List.forall_mem_cons.mpr ⟨zp_2439, List.forall_mem_cons.mpr ⟨zp_2440, List.forall_mem_cons.mpr ⟨zp_2441, List.forall_mem_cons.mpr ⟨zp_2442, List.forall_mem_cons.mpr ⟨zp_2443, List.forall_mem_cons.mpr ⟨zp_2444, List.forall_mem_cons.mpr ⟨zp_2445, List.forall_mem_cons.mpr ⟨zp_2446, List.forall_mem_cons.mpr ⟨zp_2447, List.forall_mem_cons.mpr ⟨zp_2448, List.forall_mem_cons.mpr ⟨zp_2449, List.forall_mem_cons.mpr ⟨zp_2450, List.forall_mem_cons.mpr ⟨zp_2451, List.forall_mem_cons.mpr ⟨zp_2452, List.forall_mem_cons.mpr ⟨zp_2453, List.forall_mem_cons.mpr ⟨zp_2454, List.forall_mem_cons.mpr ⟨zp_2455, List.forall_mem_cons.mpr ⟨zp_2456, List.forall_mem_cons.mpr ⟨zp_2457, List.forall_mem_cons.mpr ⟨zp_2458, List.forall_mem_cons.mpr ⟨zp_2459, List.forall_mem_cons.mpr ⟨zp_2460, List.forall_mem_cons.mpr ⟨zp_2461, List.forall_mem_cons.mpr ⟨zp_2462, List.forall_mem_cons.mpr ⟨zp_2463, List.forall_mem_cons.mpr ⟨zp_2464, List.forall_mem_cons.mpr ⟨zp_2465, List.forall_mem_cons.mpr ⟨zp_2466, List.forall_mem_cons.mpr ⟨zp_2467, List.forall_mem_cons.mpr ⟨zp_2468, List.forall_mem_cons.mpr ⟨zp_2469, List.forall_mem_cons.mpr ⟨zp_2470, List.forall_mem_cons.mpr ⟨zp_2471, List.forall_mem_cons.mpr ⟨zp_2472, List.forall_mem_cons.mpr ⟨zp_2473, List.forall_mem_cons.mpr ⟨zp_2474, List.forall_mem_cons.mpr ⟨zp_2475, List.forall_mem_cons.mpr ⟨zp_2476, List.forall_mem_cons.mpr ⟨zp_2477, List.forall_mem_cons.mpr ⟨zp_2478, List.forall_mem_cons.mpr ⟨zp_2479, List.forall_mem_cons.mpr ⟨zp_2480, List.forall_mem_cons.mpr ⟨zp_2481, List.forall_mem_cons.mpr ⟨zp_2482, List.forall_mem_cons.mpr ⟨zp_2483, List.forall_mem_cons.mpr ⟨zp_2484, List.forall_mem_cons.mpr ⟨zp_2485, List.forall_mem_cons.mpr ⟨zp_2486, List.forall_mem_cons.mpr ⟨zp_2487, List.forall_mem_cons.mpr ⟨zp_2488, List.forall_mem_cons.mpr ⟨zp_2489, List.forall_mem_cons.mpr ⟨zp_2490, List.forall_mem_cons.mpr ⟨zp_2491, List.forall_mem_cons.mpr ⟨zp_2492, List.forall_mem_cons.mpr ⟨zp_2493, List.forall_mem_cons.mpr ⟨zp_2494, List.forall_mem_cons.mpr ⟨zp_2495, List.forall_mem_cons.mpr ⟨zp_2496, List.forall_mem_cons.mpr ⟨zp_2497, List.forall_mem_cons.mpr ⟨zp_2498, List.forall_mem_cons.mpr ⟨zp_2499, List.forall_mem_cons.mpr ⟨zp_2500, List.forall_mem_cons.mpr ⟨zp_2501, List.forall_mem_cons.mpr ⟨zp_2502, List.forall_mem_cons.mpr ⟨zp_2503, List.forall_mem_cons.mpr ⟨zp_2504, List.forall_mem_cons.mpr ⟨zp_2505, List.forall_mem_cons.mpr ⟨zp_2506, List.forall_mem_cons.mpr ⟨zp_2507, List.forall_mem_cons.mpr ⟨zp_2508, List.forall_mem_cons.mpr ⟨zp_2509, List.forall_mem_cons.mpr ⟨zp_2510, List.forall_mem_cons.mpr ⟨zp_2511, List.forall_mem_cons.mpr ⟨zp_2512, List.forall_mem_cons.mpr ⟨zp_2513, List.forall_mem_cons.mpr ⟨zp_2514, List.forall_mem_cons.mpr ⟨zp_2515, fun _ h => absurd h List.not_mem_nil⟩⟩⟩⟩⟩⟩⟩⟩⟩⟩⟩⟩⟩⟩⟩⟩⟩⟩⟩⟩⟩⟩⟩⟩⟩⟩⟩⟩⟩⟩⟩⟩⟩⟩⟩⟩⟩⟩⟩⟩⟩⟩⟩⟩⟩⟩⟩⟩⟩⟩⟩⟩⟩⟩⟩⟩⟩⟩⟩⟩⟩⟩⟩⟩⟩⟩⟩⟩⟩⟩⟩⟩⟩⟩⟩⟩⟩⟩⟩⟩⟩⟩⟩⟩⟩⟩⟩⟩⟩⟩⟩⟩⟩⟩⟩⟩⟩⟩⟩⟩⟩⟩⟩⟩⟩⟩⟩⟩⟩⟩⟩⟩⟩⟩⟩⟩
set_option maxRecDepth 100000 in
theorem zi_pg_14 : ∀ e ∈ zi_ml_14, zi_pg e := List.forall_mem_cons.mpr ⟨zp_2800, fun _ h => absurd h List.not_mem_nil⟩
set_option maxRecDepth 100000 in
theorem zi_pg_15 : ∀ e ∈ zi_ml_15, zi_pg e := List.forall_mem_cons.mpr ⟨zp_3000, List.forall_mem_cons.mpr ⟨zp_3001, List.forall_mem_cons.mpr ⟨zp_3002, List.forall_mem_cons.mpr ⟨zp_3003, List.forall_mem_cons.mpr ⟨zp_3004, List.forall_mem_cons.mpr ⟨zp_3005, fun _ h => absurd h List.not_mem_nil⟩⟩⟩⟩⟩⟩
set_option maxRecDepth 100000 in
theorem zi_pg_16 : ∀ e ∈ zi_ml_16, zi_pg e := List.forall_mem_cons.mpr ⟨zp_3200, List.forall_mem_cons.mpr ⟨zp_3201, List.forall_mem_cons.mpr ⟨zp_3202, List.forall_mem_cons.mpr ⟨zp_3203, fun _ h => absurd h List.not_mem_nil⟩⟩⟩⟩
theorem zi_pgs : ∀ e ∈ zi_ml, zi_pg e := by
  unfold zi_ml
  exact List.forall_mem_append.mpr ⟨List.forall_mem_append.mpr ⟨List.forall_mem_append.mpr ⟨List.forall_mem_append.mpr ⟨List.forall_mem_append.mpr ⟨List.forall_mem_append.mpr ⟨List.forall_mem_append.mpr ⟨List.forall_mem_append.mpr ⟨List.forall_mem_append.mpr ⟨List.forall_mem_append.mpr ⟨List.forall_mem_append.mpr ⟨List.forall_mem_append.mpr ⟨List.forall_mem_append.mpr ⟨List.forall_mem_append.mpr ⟨List.forall_mem_append.mpr ⟨zi_pg_0, zi_pg_1⟩, zi_pg_2⟩, zi_pg_3⟩, zi_pg_4⟩, zi_pg_5⟩, zi_pg_6⟩, zi_pg_7⟩, zi_pg_8⟩, zi_pg_9⟩, zi_pg_10⟩, zi_pg_11⟩, zi_pg_12⟩, zi_pg_14⟩, zi_pg_15⟩, zi_pg_16⟩
/-- the program's tables are right -/
theorem zi_prog : zi_Prog zi_P zi_M := fun x DM h => zi_pgs _ (zi_M_mem h)
end
section
/-! ===== printed: what the tables say of the classes ===== -/
theorem zl_0_0 : u_lay RX0 TX0 0 ∈ zi_tb := (zi_t1 (j := 128) rfl rfl)
theorem zl_0_1 : u_lay RX0 TX0 1 ∈ zi_tb := (zi_t1 (j := 130) rfl rfl)
theorem zl_0_2 : u_lay RX0 TX0 2 ∈ zi_tb := (zi_t1 (j := 132) rfl rfl)
theorem zl_0_3 : u_lay RX0 TX0 3 ∈ zi_tb := (zi_t1 (j := 134) rfl rfl)
theorem zl_0_4 : u_lay RX0 TX0 4 ∈ zi_tb := (zi_t1 (j := 136) rfl rfl)
theorem zl_0_5 : u_lay RX0 TX0 5 ∈ zi_tb := (zi_t1 (j := 138) rfl rfl)
theorem zl_0_6 : u_lay RX0 TX0 6 ∈ zi_tb := (zi_t1 (j := 140) rfl rfl)
theorem zl_0_7 : u_lay RX0 TX0 7 ∈ zi_tb := (zi_t1 (j := 142) rfl rfl)
theorem zl_0_8 : u_lay RX0 TX0 8 ∈ zi_tb := (zi_t1 (j := 144) rfl rfl)
theorem zl_0_9 : u_lay RX0 TX0 9 ∈ zi_tb := (zi_t1 (j := 146) rfl rfl)
theorem zl_0_10 : u_lay RX0 TX0 10 ∈ zi_tb := (zi_t1 (j := 148) rfl rfl)
set_option maxRecDepth 100000 in
theorem zl_0 : ∀ w ∈ u_ws RX0 TX0 11, w ∈ zi_tb := (show ∀ w ∈ [u_lay RX0 TX0 0, u_lay RX0 TX0 1, u_lay RX0 TX0 2, u_lay RX0 TX0 3, u_lay RX0 TX0 4, u_lay RX0 TX0 5, u_lay RX0 TX0 6, u_lay RX0 TX0 7, u_lay RX0 TX0 8, u_lay RX0 TX0 9, u_lay RX0 TX0 10], w ∈ zi_tb from List.forall_mem_cons.mpr ⟨zl_0_0, List.forall_mem_cons.mpr ⟨zl_0_1, List.forall_mem_cons.mpr ⟨zl_0_2, List.forall_mem_cons.mpr ⟨zl_0_3, List.forall_mem_cons.mpr ⟨zl_0_4, List.forall_mem_cons.mpr ⟨zl_0_5, List.forall_mem_cons.mpr ⟨zl_0_6, List.forall_mem_cons.mpr ⟨zl_0_7, List.forall_mem_cons.mpr ⟨zl_0_8, List.forall_mem_cons.mpr ⟨zl_0_9, List.forall_mem_cons.mpr ⟨zl_0_10, fun _ h => absurd h List.not_mem_nil⟩⟩⟩⟩⟩⟩⟩⟩⟩⟩⟩)
theorem zl_1_0 : u_lay RX1 TX1 0 ∈ zi_tb := (zi_t1 (j := 210) rfl rfl)
theorem zl_1_1 : u_lay RX1 TX1 1 ∈ zi_tb := (zi_t1 (j := 212) rfl rfl)
theorem zl_1_2 : u_lay RX1 TX1 2 ∈ zi_tb := (zi_t1 (j := 214) rfl rfl)
set_option maxRecDepth 100000 in
theorem zl_1 : ∀ w ∈ u_ws RX1 TX1 3, w ∈ zi_tb := (show ∀ w ∈ [u_lay RX1 TX1 0, u_lay RX1 TX1 1, u_lay RX1 TX1 2], w ∈ zi_tb from List.forall_mem_cons.mpr ⟨zl_1_0, List.forall_mem_cons.mpr ⟨zl_1_1, List.forall_mem_cons.mpr ⟨zl_1_2, fun _ h => absurd h List.not_mem_nil⟩⟩⟩)
theorem zl_2_0 : u_lay RX2 TX2 0 ∈ zi_tb := (zi_t2 (j := 9) rfl rfl)
theorem zl_2_1 : u_lay RX2 TX2 1 ∈ zi_tb := (zi_t2 (j := 11) rfl rfl)
theorem zl_2_2 : u_lay RX2 TX2 2 ∈ zi_tb := (zi_t2 (j := 13) rfl rfl)
set_option maxRecDepth 100000 in
theorem zl_2 : ∀ w ∈ u_ws RX2 TX2 3, w ∈ zi_tb := (show ∀ w ∈ [u_lay RX2 TX2 0, u_lay RX2 TX2 1, u_lay RX2 TX2 2], w ∈ zi_tb from List.forall_mem_cons.mpr ⟨zl_2_0, List.forall_mem_cons.mpr ⟨zl_2_1, List.forall_mem_cons.mpr ⟨zl_2_2, fun _ h => absurd h List.not_mem_nil⟩⟩⟩)
theorem zl_3_0 : u_lay RX3 TX3 0 ∈ zi_tb := (zi_t1 (j := 182) rfl rfl)
theorem zl_3_1 : u_lay RX3 TX3 1 ∈ zi_tb := (zi_t1 (j := 184) rfl rfl)
theorem zl_3_2 : u_lay RX3 TX3 2 ∈ zi_tb := (zi_t1 (j := 186) rfl rfl)
theorem zl_3_3 : u_lay RX3 TX3 3 ∈ zi_tb := (zi_t1 (j := 188) rfl rfl)
theorem zl_3_4 : u_lay RX3 TX3 4 ∈ zi_tb := (zi_t1 (j := 190) rfl rfl)
theorem zl_3_5 : u_lay RX3 TX3 5 ∈ zi_tb := (zi_t1 (j := 192) rfl rfl)
theorem zl_3_6 : u_lay RX3 TX3 6 ∈ zi_tb := (zi_t1 (j := 194) rfl rfl)
theorem zl_3_7 : u_lay RX3 TX3 7 ∈ zi_tb := (zi_t1 (j := 196) rfl rfl)
set_option maxRecDepth 100000 in
theorem zl_3 : ∀ w ∈ u_ws RX3 TX3 8, w ∈ zi_tb := (show ∀ w ∈ [u_lay RX3 TX3 0, u_lay RX3 TX3 1, u_lay RX3 TX3 2, u_lay RX3 TX3 3, u_lay RX3 TX3 4, u_lay RX3 TX3 5, u_lay RX3 TX3 6, u_lay RX3 TX3 7], w ∈ zi_tb from List.forall_mem_cons.mpr ⟨zl_3_0, List.forall_mem_cons.mpr ⟨zl_3_1, List.forall_mem_cons.mpr ⟨zl_3_2, List.forall_mem_cons.mpr ⟨zl_3_3, List.forall_mem_cons.mpr ⟨zl_3_4, List.forall_mem_cons.mpr ⟨zl_3_5, List.forall_mem_cons.mpr ⟨zl_3_6, List.forall_mem_cons.mpr ⟨zl_3_7, fun _ h => absurd h List.not_mem_nil⟩⟩⟩⟩⟩⟩⟩⟩)
theorem zl_4_0 : u_lay RX4 TX4 0 ∈ zi_tb := (zi_t2 (j := 29) rfl rfl)
theorem zl_4_1 : u_lay RX4 TX4 1 ∈ zi_tb := (zi_t2 (j := 31) rfl rfl)
theorem zl_4_2 : u_lay RX4 TX4 2 ∈ zi_tb := (zi_t2 (j := 33) rfl rfl)
theorem zl_4_3 : u_lay RX4 TX4 3 ∈ zi_tb := (zi_t2 (j := 35) rfl rfl)
theorem zl_4_4 : u_lay RX4 TX4 4 ∈ zi_tb := (zi_t2 (j := 37) rfl rfl)
theorem zl_4_5 : u_lay RX4 TX4 5 ∈ zi_tb := (zi_t2 (j := 39) rfl rfl)
set_option maxRecDepth 100000 in
theorem zl_4 : ∀ w ∈ u_ws RX4 TX4 6, w ∈ zi_tb := (show ∀ w ∈ [u_lay RX4 TX4 0, u_lay RX4 TX4 1, u_lay RX4 TX4 2, u_lay RX4 TX4 3, u_lay RX4 TX4 4, u_lay RX4 TX4 5], w ∈ zi_tb from List.forall_mem_cons.mpr ⟨zl_4_0, List.forall_mem_cons.mpr ⟨zl_4_1, List.forall_mem_cons.mpr ⟨zl_4_2, List.forall_mem_cons.mpr ⟨zl_4_3, List.forall_mem_cons.mpr ⟨zl_4_4, List.forall_mem_cons.mpr ⟨zl_4_5, fun _ h => absurd h List.not_mem_nil⟩⟩⟩⟩⟩⟩)
theorem zl_5_0 : u_lay RX5 TX5 0 ∈ zi_tb := (zi_t1 (j := 62) rfl rfl)
theorem zl_5_1 : u_lay RX5 TX5 1 ∈ zi_tb := (zi_t1 (j := 64) rfl rfl)
set_option maxRecDepth 100000 in
theorem zl_5 : ∀ w ∈ u_ws RX5 TX5 2, w ∈ zi_tb := (show ∀ w ∈ [u_lay RX5 TX5 0, u_lay RX5 TX5 1], w ∈ zi_tb from List.forall_mem_cons.mpr ⟨zl_5_0, List.forall_mem_cons.mpr ⟨zl_5_1, fun _ h => absurd h List.not_mem_nil⟩⟩)
theorem zl_6_0 : u_lay RX6 TX6 0 ∈ zi_tb := (zi_t2 (j := 76) rfl rfl)
theorem zl_6_1 : u_lay RX6 TX6 1 ∈ zi_tb := (zi_t2 (j := 78) rfl rfl)
theorem zl_6_2 : u_lay RX6 TX6 2 ∈ zi_tb := (zi_t2 (j := 80) rfl rfl)
set_option maxRecDepth 100000 in
theorem zl_6 : ∀ w ∈ u_ws RX6 TX6 3, w ∈ zi_tb := (show ∀ w ∈ [u_lay RX6 TX6 0, u_lay RX6 TX6 1, u_lay RX6 TX6 2], w ∈ zi_tb from List.forall_mem_cons.mpr ⟨zl_6_0, List.forall_mem_cons.mpr ⟨zl_6_1, List.forall_mem_cons.mpr ⟨zl_6_2, fun _ h => absurd h List.not_mem_nil⟩⟩⟩)
theorem zl_7_0 : u_lay RX7 TX7 0 ∈ zi_tb := (zi_t1 (j := 86) rfl rfl)
theorem zl_7_1 : u_lay RX7 TX7 1 ∈ zi_tb := (zi_t1 (j := 88) rfl rfl)
theorem zl_7_2 : u_lay RX7 TX7 2 ∈ zi_tb := (zi_t1 (j := 90) rfl rfl)
theorem zl_7_3 : u_lay RX7 TX7 3 ∈ zi_tb := (zi_t1 (j := 92) rfl rfl)
theorem zl_7_4 : u_lay RX7 TX7 4 ∈ zi_tb := (zi_t1 (j := 94) rfl rfl)
theorem zl_7_5 : u_lay RX7 TX7 5 ∈ zi_tb := (zi_t1 (j := 96) rfl rfl)
set_option maxRecDepth 100000 in
theorem zl_7 : ∀ w ∈ u_ws RX7 TX7 6, w ∈ zi_tb := (show ∀ w ∈ [u_lay RX7 TX7 0, u_lay RX7 TX7 1, u_lay RX7 TX7 2, u_lay RX7 TX7 3, u_lay RX7 TX7 4, u_lay RX7 TX7 5], w ∈ zi_tb from List.forall_mem_cons.mpr ⟨zl_7_0, List.forall_mem_cons.mpr ⟨zl_7_1, List.forall_mem_cons.mpr ⟨zl_7_2, List.forall_mem_cons.mpr ⟨zl_7_3, List.forall_mem_cons.mpr ⟨zl_7_4, List.forall_mem_cons.mpr ⟨zl_7_5, fun _ h => absurd h List.not_mem_nil⟩⟩⟩⟩⟩⟩)
theorem zl_8_0 : u_lay RX8 TX8 0 ∈ zi_tb := (zi_t1 (j := 44) rfl rfl)
theorem zl_8_1 : u_lay RX8 TX8 1 ∈ zi_tb := (zi_t1 (j := 46) rfl rfl)
theorem zl_8_2 : u_lay RX8 TX8 2 ∈ zi_tb := (zi_t1 (j := 48) rfl rfl)
theorem zl_8_3 : u_lay RX8 TX8 3 ∈ zi_tb := (zi_t1 (j := 50) rfl rfl)
set_option maxRecDepth 100000 in
theorem zl_8 : ∀ w ∈ u_ws RX8 TX8 4, w ∈ zi_tb := (show ∀ w ∈ [u_lay RX8 TX8 0, u_lay RX8 TX8 1, u_lay RX8 TX8 2, u_lay RX8 TX8 3], w ∈ zi_tb from List.forall_mem_cons.mpr ⟨zl_8_0, List.forall_mem_cons.mpr ⟨zl_8_1, List.forall_mem_cons.mpr ⟨zl_8_2, List.forall_mem_cons.mpr ⟨zl_8_3, fun _ h => absurd h List.not_mem_nil⟩⟩⟩⟩)
theorem zl_9_0 : u_lay RX9 TX9 0 ∈ zi_tb := (zi_t1 (j := 229) rfl rfl)
theorem zl_9_1 : u_lay RX9 TX9 1 ∈ zi_tb := (zi_t1 (j := 231) rfl rfl)
theorem zl_9_2 : u_lay RX9 TX9 2 ∈ zi_tb := (zi_t1 (j := 233) rfl rfl)
theorem zl_9_3 : u_lay RX9 TX9 3 ∈ zi_tb := (zi_t1 (j := 235) rfl rfl)
theorem zl_9_4 : u_lay RX9 TX9 4 ∈ zi_tb := (zi_t1 (j := 237) rfl rfl)
set_option maxRecDepth 100000 in
theorem zl_9 : ∀ w ∈ u_ws RX9 TX9 5, w ∈ zi_tb := (show ∀ w ∈ [u_lay RX9 TX9 0, u_lay RX9 TX9 1, u_lay RX9 TX9 2, u_lay RX9 TX9 3, u_lay RX9 TX9 4], w ∈ zi_tb from List.forall_mem_cons.mpr ⟨zl_9_0, List.forall_mem_cons.mpr ⟨zl_9_1, List.forall_mem_cons.mpr ⟨zl_9_2, List.forall_mem_cons.mpr ⟨zl_9_3, List.forall_mem_cons.mpr ⟨zl_9_4, fun _ h => absurd h List.not_mem_nil⟩⟩⟩⟩⟩)
theorem zl_10_0 : u_lay RX10 TX10 0 ∈ zi_tb := (zi_t2 (j := 53) rfl rfl)
theorem zl_10_1 : u_lay RX10 TX10 1 ∈ zi_tb := (zi_t2 (j := 55) rfl rfl)
theorem zl_10_2 : u_lay RX10 TX10 2 ∈ zi_tb := (zi_t2 (j := 57) rfl rfl)
theorem zl_10_3 : u_lay RX10 TX10 3 ∈ zi_tb := (zi_t2 (j := 59) rfl rfl)
theorem zl_10_4 : u_lay RX10 TX10 4 ∈ zi_tb := (zi_t2 (j := 61) rfl rfl)
set_option maxRecDepth 100000 in
theorem zl_10 : ∀ w ∈ u_ws RX10 TX10 5, w ∈ zi_tb := (show ∀ w ∈ [u_lay RX10 TX10 0, u_lay RX10 TX10 1, u_lay RX10 TX10 2, u_lay RX10 TX10 3, u_lay RX10 TX10 4], w ∈ zi_tb from List.forall_mem_cons.mpr ⟨zl_10_0, List.forall_mem_cons.mpr ⟨zl_10_1, List.forall_mem_cons.mpr ⟨zl_10_2, List.forall_mem_cons.mpr ⟨zl_10_3, List.forall_mem_cons.mpr ⟨zl_10_4, fun _ h => absurd h List.not_mem_nil⟩⟩⟩⟩⟩)
theorem zl_11_0 : u_lay RX11 TX11 0 ∈ zi_tb := (zi_t2 (j := 98) rfl rfl)
theorem zl_11_1 : u_lay RX11 TX11 1 ∈ zi_tb := (zi_t2 (j := 100) rfl rfl)
theorem zl_11_2 : u_lay RX11 TX11 2 ∈ zi_tb := (zi_t2 (j := 102) rfl rfl)
theorem zl_11_3 : u_lay RX11 TX11 3 ∈ zi_tb := (zi_t2 (j := 104) rfl rfl)
theorem zl_11_4 : u_lay RX11 TX11 4 ∈ zi_tb := (zi_t2 (j := 106) rfl rfl)
theorem zl_11_5 : u_lay RX11 TX11 5 ∈ zi_tb := (zi_t2 (j := 108) rfl rfl)
theorem zl_11_6 : u_lay RX11 TX11 6 ∈ zi_tb := (zi_t2 (j := 110) rfl rfl)
theorem zl_11_7 : u_lay RX11 TX11 7 ∈ zi_tb := (zi_t2 (j := 112) rfl rfl)
theorem zl_11_8 : u_lay RX11 TX11 8 ∈ zi_tb := (zi_t2 (j := 114) rfl rfl)
theorem zl_11_9 : u_lay RX11 TX11 9 ∈ zi_tb := (zi_t2 (j := 116) rfl rfl)
theorem zl_11_10 : u_lay RX11 TX11 10 ∈ zi_tb := (zi_t2 (j := 118) rfl rfl)
theorem zl_11_11 : u_lay RX11 TX11 11 ∈ zi_tb := (zi_t2 (j := 120) rfl rfl)
theorem zl_11_12 : u_lay RX11 TX11 12 ∈ zi_tb := (zi_t2 (j := 122) rfl rfl)
theorem zl_11_13 : u_lay RX11 TX11 13 ∈ zi_tb := (zi_t2 (j := 124) rfl rfl)
theorem zl_11_14 : u_lay RX11 TX11 14 ∈ zi_tb := (zi_t2 (j := 126) rfl rfl)
set_option maxRecDepth 100000 in
theorem zl_11 : ∀ w ∈ u_ws RX11 TX11 15, w ∈ zi_tb := (show ∀ w ∈ [u_lay RX11 TX11 0, u_lay RX11 TX11 1, u_lay RX11 TX11 2, u_lay RX11 TX11 3, u_lay RX11 TX11 4, u_lay RX11 TX11 5, u_lay RX11 TX11 6, u_lay RX11 TX11 7, u_lay RX11 TX11 8, u_lay RX11 TX11 9, u_lay RX11 TX11 10, u_lay RX11 TX11 11, u_lay RX11 TX11 12, u_lay RX11 TX11 13, u_lay RX11 TX11 14], w ∈ zi_tb from List.forall_mem_cons.mpr ⟨zl_11_0, List.forall_mem_cons.mpr ⟨zl_11_1, List.forall_mem_cons.mpr ⟨zl_11_2, List.forall_mem_cons.mpr ⟨zl_11_3, List.forall_mem_cons.mpr ⟨zl_11_4, List.forall_mem_cons.mpr ⟨zl_11_5, List.forall_mem_cons.mpr ⟨zl_11_6, List.forall_mem_cons.mpr ⟨zl_11_7, List.forall_mem_cons.mpr ⟨zl_11_8, List.forall_mem_cons.mpr ⟨zl_11_9, List.forall_mem_cons.mpr ⟨zl_11_10, List.forall_mem_cons.mpr ⟨zl_11_11, List.forall_mem_cons.mpr ⟨zl_11_12, List.forall_mem_cons.mpr ⟨zl_11_13, List.forall_mem_cons.mpr ⟨zl_11_14, fun _ h => absurd h List.not_mem_nil⟩⟩⟩⟩⟩⟩⟩⟩⟩⟩⟩⟩⟩⟩⟩)
theorem zl_12_0 : u_lay RX12 TX12 0 ∈ zi_tb := (zi_t6 (j := 72) rfl rfl)
theorem zl_12_1 : u_lay RX12 TX12 1 ∈ zi_tb := (zi_t6 (j := 74) rfl rfl)
theorem zl_12_2 : u_lay RX12 TX12 2 ∈ zi_tb := (zi_t6 (j := 76) rfl rfl)
theorem zl_12_3 : u_lay RX12 TX12 3 ∈ zi_tb := (zi_t6 (j := 78) rfl rfl)
theorem zl_12_4 : u_lay RX12 TX12 4 ∈ zi_tb := (zi_t6 (j := 80) rfl rfl)
theorem zl_12_5 : u_lay RX12 TX12 5 ∈ zi_tb := (zi_t6 (j := 82) rfl rfl)
theorem zl_12_6 : u_lay RX12 TX12 6 ∈ zi_tb := (zi_t6 (j := 84) rfl rfl)
theorem zl_12_7 : u_lay RX12 TX12 7 ∈ zi_tb := (zi_t6 (j := 86) rfl rfl)
theorem zl_12_8 : u_lay RX12 TX12 8 ∈ zi_tb := (zi_t6 (j := 88) rfl rfl)
theorem zl_12_9 : u_lay RX12 TX12 9 ∈ zi_tb := (zi_t6 (j := 90) rfl rfl)
theorem zl_12_10 : u_lay RX12 TX12 10 ∈ zi_tb := (zi_t6 (j := 92) rfl rfl)
theorem zl_12_11 : u_lay RX12 TX12 11 ∈ zi_tb := (zi_t6 (j := 94) rfl rfl)
theorem zl_12_12 : u_lay RX12 TX12 12 ∈ zi_tb := (zi_t6 (j := 96) rfl rfl)
theorem zl_12_13 : u_lay RX12 TX12 13 ∈ zi_tb := (zi_t6 (j := 98) rfl rfl)
theorem zl_12_14 : u_lay RX12 TX12 14 ∈ zi_tb := (zi_t6 (j := 100) rfl rfl)
theorem zl_12_15 : u_lay RX12 TX12 15 ∈ zi_tb := (zi_t6 (j := 102) rfl rfl)
theorem zl_12_16 : u_lay RX12 TX12 16 ∈ zi_tb := (zi_t6 (j := 104) rfl rfl)
theorem zl_12_17 : u_lay RX12 TX12 17 ∈ zi_tb := (zi_t6 (j := 106) rfl rfl)
theorem zl_12_18 : u_lay RX12 TX12 18 ∈ zi_tb := (zi_t6 (j := 108) rfl rfl)
theorem zl_12_19 : u_lay RX12 TX12 19 ∈ zi_tb := (zi_t6 (j := 110) rfl rfl)
theorem zl_12_20 : u_lay RX12 TX12 20 ∈ zi_tb := (zi_t6 (j := 112) rfl rfl)
theorem zl_12_21 : u_lay RX12 TX12 21 ∈ zi_tb := (zi_t6 (j := 114) rfl rfl)
theorem zl_12_22 : u_lay RX12 TX12 22 ∈ zi_tb := (zi_t6 (j := 116) rfl rfl)
theorem zl_12_23 : u_lay RX12 TX12 23 ∈ zi_tb := (zi_t6 (j := 118) rfl rfl)
theorem zl_12_24 : u_lay RX12 TX12 24 ∈ zi_tb := (zi_t6 (j := 120) rfl rfl)
theorem zl_12_25 : u_lay RX12 TX12 25 ∈ zi_tb := (zi_t6 (j := 122) rfl rfl)
theorem zl_12_26 : u_lay RX12 TX12 26 ∈ zi_tb := (zi_t6 (j := 124) rfl rfl)
theorem zl_12_27 : u_lay RX12 TX12 27 ∈ zi_tb := (zi_t6 (j := 126) rfl rfl)
theorem zl_12_28 : u_lay RX12 TX12 28 ∈ zi_tb := (zi_t6 (j := 128) rfl rfl)
theorem zl_12_29 : u_lay RX12 TX12 29 ∈ zi_tb := (zi_t6 (j := 130) rfl rfl)
theorem zl_12_30 : u_lay RX12 TX12 30 ∈ zi_tb := (zi_t6 (j := 132) rfl rfl)
theorem zl_12_31 : u_lay RX12 TX12 31 ∈ zi_tb := (zi_t6 (j := 134) rfl rfl)
theorem zl_12_32 : u_lay RX12 TX12 32 ∈ zi_tb := (zi_t6 (j := 136) rfl rfl)
theorem zl_12_33 : u_lay RX12 TX12 33 ∈ zi_tb := (zi_t6 (j := 138) rfl rfl)
theorem zl_12_34 : u_lay RX12 TX12 34 ∈ zi_tb := (zi_t6 (j := 140) rfl rfl)
theorem zl_12_35 : u_lay RX12 TX12 35 ∈ zi_tb := (zi_t6 (j := 142) rfl rfl)
theorem zl_12_36 : u_lay RX12 TX12 36 ∈ zi_tb := (zi_t6 (j := 144) rfl rfl)
theorem zl_12_37 : u_lay RX12 TX12 37 ∈ zi_tb := (zi_t6 (j := 146) rfl rfl)
theorem zl_12_38 : u_lay RX12 TX12 38 ∈ zi_tb := (zi_t6 (j := 148) rfl rfl)
theorem zl_12_39 : u_lay RX12 TX12 39 ∈ zi_tb := (zi_t6 (j := 150) rfl rfl)
theorem zl_12_40 : u_lay RX12 TX12 40 ∈ zi_tb := (zi_t6 (j := 152) rfl rfl)
theorem zl_12_41 : u_lay RX12 TX12 41 ∈ zi_tb := (zi_t6 (j := 154) rfl rfl)
theorem zl_12_42 : u_lay RX12 TX12 42 ∈ zi_tb := (zi_t6 (j := 156) rfl rfl)
theorem zl_12_43 : u_lay RX12 TX12 43 ∈ zi_tb := (zi_t6 (j := 158) rfl rfl)
theorem zl_12_44 : u_lay RX12 TX12 44 ∈ zi_tb := (zi_t6 (j := 160) rfl rfl)
theorem zl_12_45 : u_lay RX12 TX12 45 ∈ zi_tb := (zi_t6 (j := 162) rfl rfl)
theorem zl_12_46 : u_lay RX12 TX12 46 ∈ zi_tb := (zi_t6 (j := 164) rfl rfl)
theorem zl_12_47 : u_lay RX12 TX12 47 ∈ zi_tb := (zi_t6 (j := 166) rfl rfl)
theorem zl_12_48 : u_lay RX12 TX12 48 ∈ zi_tb := (zi_t6 (j := 168) rfl rfl)
theorem zl_12_49 : u_lay RX12 TX12 49 ∈ zi_tb := (zi_t6 (j := 170) rfl rfl)
theorem zl_12_50 : u_lay RX12 TX12 50 ∈ zi_tb := (zi_t6 (j := 172) rfl rfl)
theorem zl_12_51 : u_lay RX12 TX12 51 ∈ zi_tb := (zi_t6 (j := 174) rfl rfl)
theorem zl_12_52 : u_lay RX12 TX12 52 ∈ zi_tb := (zi_t6 (j := 176) rfl rfl)
set_option maxRecDepth 100000 in
theorem zl_12 : ∀ w ∈ u_ws RX12 TX12 53, w ∈ zi_tb := (show ∀ w ∈ [u_lay RX12 TX12 0, u_lay RX12 TX12 1, u_lay RX12 TX12 2, u_lay RX12 TX12 3, u_lay RX12 TX12 4, u_lay RX12 TX12 5, u_lay RX12 TX12 6, u_lay RX12 TX12 7, u_lay RX12 TX12 8, u_lay RX12 TX12 9, u_lay RX12 TX12 10, u_lay RX12 TX12 11, u_lay RX12 TX12 12, u_lay RX12 TX12 13, u_lay RX12 TX12 14, u_lay RX12 TX12 15, u_lay RX12 TX12 16, u_lay RX12 TX12 17, u_lay RX12 TX12 18, u_lay RX12 TX12 19, u_lay RX12 TX12 20, u_lay RX12 TX12 21, u_lay RX12 TX12 22, u_lay RX12 TX12 23, u_lay RX12 TX12 24, u_lay RX12 TX12 25, u_lay RX12 TX12 26, u_lay RX12 TX12 27, u_lay RX12 TX12 28, u_lay RX12 TX12 29, u_lay RX12 TX12 30, u_lay RX12 TX12 31, u_lay RX12 TX12 32, u_lay RX12 TX12 33, u_lay RX12 TX12 34, u_lay RX12 TX12 35, u_lay RX12 TX12 36, u_lay RX12 TX12 37, u_lay RX12 TX12 38, u_lay RX12 TX12 39, u_lay RX12 TX12 40, u_lay RX12 TX12 41, u_lay RX12 TX12 42, u_lay RX12 TX12 43, u_lay RX12 TX12 44, u_lay RX12 TX12 45, u_lay RX12 TX12 46, u_lay RX12 TX12 47, u_lay RX12 TX12 48, u_lay RX12 TX12 49, u_lay RX12 TX12 50, u_lay RX12 TX12 51, u_lay RX12 TX12 52], w ∈ zi_tb from List.forall_mem_cons.mpr ⟨zl_12_0, List.forall_mem_cons.mpr ⟨zl_12_1, List.forall_mem_cons.mpr ⟨zl_12_2, List.forall_mem_cons.mpr ⟨zl_12_3, List.forall_mem_cons.mpr ⟨zl_12_4, List.forall_mem_cons.mpr ⟨zl_12_5, List.forall_mem_cons.mpr ⟨zl_12_6, List.forall_mem_cons.mpr ⟨zl_12_7, List.forall_mem_cons.mpr ⟨zl_12_8, List.forall_mem_cons.mpr ⟨zl_12_9, List.forall_mem_cons.mpr ⟨zl_12_10, List.forall_mem_cons.mpr ⟨zl_12_11, List.forall_mem_cons.mpr ⟨zl_12_12, List.forall_mem_cons.mpr ⟨zl_12_13, List.forall_mem_cons.mpr ⟨zl_12_14, List.forall_mem_cons.mpr ⟨zl_12_15, List.forall_mem_cons.mpr ⟨zl_12_16, List.forall_mem_cons.mpr ⟨zl_12_17, List.forall_mem_cons.mpr ⟨zl_12_18, List.forall_mem_cons.mpr ⟨zl_12_19, List.forall_mem_cons.mpr ⟨zl_12_20, List.forall_mem_cons.mpr ⟨zl_12_21, List.forall_mem_cons.mpr ⟨zl_12_22, List.forall_mem_cons.mpr ⟨zl_12_23, List.forall_mem_cons.mpr ⟨zl_12_24, List.forall_mem_cons.mpr ⟨zl_12_25, List.forall_mem_cons.mpr ⟨zl_12_26, List.forall_mem_cons.mpr ⟨zl_12_27, List.forall_mem_cons.mpr ⟨zl_12_28, List.forall_mem_cons.mpr ⟨zl_12_29, List.forall_mem_cons.mpr ⟨zl_12_30, List.forall_mem_cons.mpr ⟨zl_12_31, List.forall_mem_cons.mpr ⟨zl_12_32, List.forall_mem_cons.mpr ⟨zl_12_33, List.forall_mem_cons.mpr ⟨zl_12_34, List.forall_mem_cons.mpr ⟨zl_12_35, List.forall_mem_cons.mpr ⟨zl_12_36, List.forall_mem_cons.mpr ⟨zl_12_37, List.forall_mem_cons.mpr ⟨zl_12_38, List.forall_mem_cons.mpr ⟨zl_12_39, List.forall_mem_cons.mpr ⟨zl_12_40, List.forall_mem_cons.mpr ⟨zl_12_41, List.forall_mem_cons.mpr ⟨zl_12_42, List.forall_mem_cons.mpr ⟨zl_12_43, List.forall_mem_cons.mpr ⟨zl_12_44, List.forall_mem_cons.mpr ⟨zl_12_45, List.forall_mem_cons.mpr ⟨zl_12_46, List.forall_mem_cons.mpr ⟨zl_12_47, List.forall_mem_cons.mpr ⟨zl_12_48, List.forall_mem_cons.mpr ⟨zl_12_49, List.forall_mem_cons.mpr ⟨zl_12_50, List.forall_mem_cons.mpr ⟨zl_12_51, List.forall_mem_cons.mpr ⟨zl_12_52, fun _ h => absurd h List.not_mem_nil⟩⟩⟩⟩⟩⟩⟩⟩⟩⟩⟩⟩⟩⟩⟩⟩⟩⟩⟩⟩⟩⟩⟩⟩⟩⟩⟩⟩⟩⟩⟩⟩⟩⟩⟩⟩⟩⟩⟩⟩⟩⟩⟩⟩⟩⟩⟩⟩⟩⟩⟩⟩⟩)
theorem zi_clsok : zi_cls := by
  intro ci r h
  match ci, h with
  | 0, h =>
    cases h
    exact ⟨zl_0, tyX0_ok, nmX0⟩
  | 1, h =>
    cases h
    exact ⟨zl_1, tyX1_ok, nmX1⟩
  | 2, h =>
    cases h
    exact ⟨zl_2, tyX2_ok, nmX2⟩
  | 3, h =>
    cases h
    exact ⟨zl_3, tyX3_ok, nmX3⟩
  | 4, h =>
    cases h
    exact ⟨zl_4, tyX4_ok, nmX4⟩
  | 5, h =>
    cases h
    exact ⟨zl_5, tyX5_ok, nmX5⟩
  | 6, h =>
    cases h
    exact ⟨zl_6, tyX6_ok, nmX6⟩
  | 7, h =>
    cases h
    exact ⟨zl_7, tyX7_ok, nmX7⟩
  | 8, h =>
    cases h
    exact ⟨zl_8, tyX8_ok, nmX8⟩
  | 9, h =>
    cases h
    exact ⟨zl_9, tyX9_ok, nmX9⟩
  | 10, h =>
    cases h
    exact ⟨zl_10, tyX10_ok, nmX10⟩
  | 11, h =>
    cases h
    exact ⟨zl_11, tyX11_ok, nmX11⟩
  | 12, h =>
    cases h
    exact ⟨zl_12, tyX12_ok, nmX12⟩
  | n + 13, h => simp [vwCl] at h
end
