section
-- ===== PART A: goes FIRST, ahead of the names: the tables' words, and 'selects' of the private methods out of them =====
/-- a private method of a class that the tables say can be made, by its rows of tables_1 -/
def lw_okq (q : MethodName × Nat) : Prop := (q.1.cls ≠ "java/lang/invoke/MethodHandle" ∧ q.1.cls ≠ "java/lang/invoke/VarHandle") ∧ Cond.instantiable q.1.cls q.2 ∈ tables_1 ∧ Cond.privateMethod q.1 ∈ tables_1 ∧ Cond.instanceMethod q.1 ∈ tables_1
theorem lw_p0 : lw_okq (⟨"LeastWished", "forgetWhatWas", "()V"⟩, 12) := ⟨⟨by decide +kernel, by decide +kernel⟩, List.mem_of_getElem? (i := 25) (by decide +kernel), List.mem_of_getElem? (i := 301) (by decide +kernel), List.mem_of_getElem? (i := 302) (by decide +kernel)⟩
theorem lw_p1 : lw_okq (⟨"LeastWished$House", "nextPlace", "(IIZ)I"⟩, 7) := ⟨⟨by decide +kernel, by decide +kernel⟩, List.mem_of_getElem? (i := 51) (by decide +kernel), List.mem_of_getElem? (i := 320) (by decide +kernel), List.mem_of_getElem? (i := 321) (by decide +kernel)⟩
theorem lw_p2 : lw_okq (⟨"LeastWished", "takeLines", "()I"⟩, 12) := ⟨⟨by decide +kernel, by decide +kernel⟩, List.mem_of_getElem? (i := 25) (by decide +kernel), List.mem_of_getElem? (i := 332) (by decide +kernel), List.mem_of_getElem? (i := 333) (by decide +kernel)⟩
theorem lw_p3 : lw_okq (⟨"LeastWished", "addRider", "(IIIZ)V"⟩, 12) := ⟨⟨by decide +kernel, by decide +kernel⟩, List.mem_of_getElem? (i := 25) (by decide +kernel), List.mem_of_getElem? (i := 337) (by decide +kernel), List.mem_of_getElem? (i := 338) (by decide +kernel)⟩
theorem lw_p4 : lw_okq (⟨"LeastWished$Law", "putDigit", "(IZ)V"⟩, 6) := ⟨⟨by decide +kernel, by decide +kernel⟩, List.mem_of_getElem? (i := 57) (by decide +kernel), List.mem_of_getElem? (i := 368) (by decide +kernel), List.mem_of_getElem? (i := 369) (by decide +kernel)⟩
theorem lw_p5 : lw_okq (⟨"LeastWished$Law", "put", "(I)V"⟩, 6) := ⟨⟨by decide +kernel, by decide +kernel⟩, List.mem_of_getElem? (i := 57) (by decide +kernel), List.mem_of_getElem? (i := 372) (by decide +kernel), List.mem_of_getElem? (i := 373) (by decide +kernel)⟩
theorem lw_p6 : lw_okq (⟨"LeastWished$Law", "await", "(I)V"⟩, 6) := ⟨⟨by decide +kernel, by decide +kernel⟩, List.mem_of_getElem? (i := 57) (by decide +kernel), List.mem_of_getElem? (i := 376) (by decide +kernel), List.mem_of_getElem? (i := 377) (by decide +kernel)⟩
theorem lw_p7 : lw_okq (⟨"LeastWished$Law", "release", "(I)V"⟩, 6) := ⟨⟨by decide +kernel, by decide +kernel⟩, List.mem_of_getElem? (i := 57) (by decide +kernel), List.mem_of_getElem? (i := 380) (by decide +kernel), List.mem_of_getElem? (i := 381) (by decide +kernel)⟩
theorem lw_p8 : lw_okq (⟨"LeastWished", "ofFloors", "(I)I"⟩, 12) := ⟨⟨by decide +kernel, by decide +kernel⟩, List.mem_of_getElem? (i := 25) (by decide +kernel), List.mem_of_getElem? (i := 422) (by decide +kernel), List.mem_of_getElem? (i := 423) (by decide +kernel)⟩
theorem lw_p9 : lw_okq (⟨"LeastWished", "clearRow", "()V"⟩, 12) := ⟨⟨by decide +kernel, by decide +kernel⟩, List.mem_of_getElem? (i := 25) (by decide +kernel), List.mem_of_getElem? (i := 503) (by decide +kernel), List.mem_of_getElem? (i := 504) (by decide +kernel)⟩
theorem lw_p10 : lw_okq (⟨"LeastWished", "tell", "(J)V"⟩, 12) := ⟨⟨by decide +kernel, by decide +kernel⟩, List.mem_of_getElem? (i := 25) (by decide +kernel), List.mem_of_getElem? (i := 507) (by decide +kernel), List.mem_of_getElem? (i := 508) (by decide +kernel)⟩
theorem lw_p11 : lw_okq (⟨"LeastWished$Day", "act", "(LLeastWished$Text;II)Z"⟩, 5) := ⟨⟨by decide +kernel, by decide +kernel⟩, List.mem_of_getElem? (i := 534) (by decide +kernel), List.mem_of_getElem? (i := 563) (by decide +kernel), List.mem_of_getElem? (i := 564) (by decide +kernel)⟩
theorem lw_p12 : lw_okq (⟨"LeastWished$Day", "pass", "(LLeastWished$Text;II)Z"⟩, 5) := ⟨⟨by decide +kernel, by decide +kernel⟩, List.mem_of_getElem? (i := 534) (by decide +kernel), List.mem_of_getElem? (i := 567) (by decide +kernel), List.mem_of_getElem? (i := 568) (by decide +kernel)⟩
theorem lw_p13 : lw_okq (⟨"LeastWished$Day", "wish", "(II)Z"⟩, 5) := ⟨⟨by decide +kernel, by decide +kernel⟩, List.mem_of_getElem? (i := 534) (by decide +kernel), List.mem_of_getElem? (i := 573) (by decide +kernel), List.mem_of_getElem? (i := 574) (by decide +kernel)⟩
theorem lw_p14 : lw_okq (⟨"LeastWished", "addChance", "(IJ)V"⟩, 12) := ⟨⟨by decide +kernel, by decide +kernel⟩, List.mem_of_getElem? (i := 25) (by decide +kernel), List.mem_of_getElem? (i := 614) (by decide +kernel), List.mem_of_getElem? (i := 615) (by decide +kernel)⟩
theorem lw_p15 : lw_okq (⟨"LeastWished", "fewestMoved", "(II)I"⟩, 12) := ⟨⟨by decide +kernel, by decide +kernel⟩, List.mem_of_getElem? (i := 25) (by decide +kernel), List.mem_of_getElem? (i := 625) (by decide +kernel), List.mem_of_getElem? (i := 626) (by decide +kernel)⟩
def lw_privs_1 : List (MethodName × Nat) := [(⟨"LeastWished", "forgetWhatWas", "()V"⟩, 12), (⟨"LeastWished$House", "nextPlace", "(IIZ)I"⟩, 7), (⟨"LeastWished", "takeLines", "()I"⟩, 12), (⟨"LeastWished", "addRider", "(IIIZ)V"⟩, 12), (⟨"LeastWished$Law", "putDigit", "(IZ)V"⟩, 6), (⟨"LeastWished$Law", "put", "(I)V"⟩, 6), (⟨"LeastWished$Law", "await", "(I)V"⟩, 6), (⟨"LeastWished$Law", "release", "(I)V"⟩, 6), (⟨"LeastWished", "ofFloors", "(I)I"⟩, 12), (⟨"LeastWished", "clearRow", "()V"⟩, 12), (⟨"LeastWished", "tell", "(J)V"⟩, 12), (⟨"LeastWished$Day", "act", "(LLeastWished$Text;II)Z"⟩, 5), (⟨"LeastWished$Day", "pass", "(LLeastWished$Text;II)Z"⟩, 5), (⟨"LeastWished$Day", "wish", "(II)Z"⟩, 5), (⟨"LeastWished", "addChance", "(IJ)V"⟩, 12), (⟨"LeastWished", "fewestMoved", "(II)I"⟩, 12)]
theorem lw_r1 : ∀ q ∈ lw_privs_1, lw_okq q := List.forall_mem_cons.mpr ⟨lw_p0, List.forall_mem_cons.mpr ⟨lw_p1, List.forall_mem_cons.mpr ⟨lw_p2, List.forall_mem_cons.mpr ⟨lw_p3, List.forall_mem_cons.mpr ⟨lw_p4, List.forall_mem_cons.mpr ⟨lw_p5, List.forall_mem_cons.mpr ⟨lw_p6, List.forall_mem_cons.mpr ⟨lw_p7, List.forall_mem_cons.mpr ⟨lw_p8, List.forall_mem_cons.mpr ⟨lw_p9, List.forall_mem_cons.mpr ⟨lw_p10, List.forall_mem_cons.mpr ⟨lw_p11, List.forall_mem_cons.mpr ⟨lw_p12, List.forall_mem_cons.mpr ⟨lw_p13, List.forall_mem_cons.mpr ⟨lw_p14, List.forall_mem_cons.mpr ⟨lw_p15, fun _ h => absurd h List.not_mem_nil⟩⟩⟩⟩⟩⟩⟩⟩⟩⟩⟩⟩⟩⟩⟩⟩
theorem lw_p16 : lw_okq (⟨"LeastWished", "bestWish", "(LLeastWished$Moment;I)I"⟩, 12) := ⟨⟨by decide +kernel, by decide +kernel⟩, List.mem_of_getElem? (i := 25) (by decide +kernel), List.mem_of_getElem? (i := 638) (by decide +kernel), List.mem_of_getElem? (i := 639) (by decide +kernel)⟩
theorem lw_p17 : lw_okq (⟨"LeastWished", "distanceBy", "(LLeastWished$Moment;II)I"⟩, 12) := ⟨⟨by decide +kernel, by decide +kernel⟩, List.mem_of_getElem? (i := 25) (by decide +kernel), List.mem_of_getElem? (i := 642) (by decide +kernel), List.mem_of_getElem? (i := 643) (by decide +kernel)⟩
theorem lw_p18 : lw_okq (⟨"LeastWished", "tellAnew", "(LLeastWished$Moment;)Z"⟩, 12) := ⟨⟨by decide +kernel, by decide +kernel⟩, List.mem_of_getElem? (i := 25) (by decide +kernel), List.mem_of_getElem? (i := 651) (by decide +kernel), List.mem_of_getElem? (i := 652) (by decide +kernel)⟩
theorem lw_p19 : lw_okq (⟨"LeastWished", "comeHome", "(II)I"⟩, 12) := ⟨⟨by decide +kernel, by decide +kernel⟩, List.mem_of_getElem? (i := 25) (by decide +kernel), List.mem_of_getElem? (i := 667) (by decide +kernel), List.mem_of_getElem? (i := 668) (by decide +kernel)⟩
theorem lw_p20 : lw_okq (⟨"LeastWished", "ridesTillHome", "(I)I"⟩, 12) := ⟨⟨by decide +kernel, by decide +kernel⟩, List.mem_of_getElem? (i := 25) (by decide +kernel), List.mem_of_getElem? (i := 679) (by decide +kernel), List.mem_of_getElem? (i := 680) (by decide +kernel)⟩
theorem lw_p21 : lw_okq (⟨"LeastWished", "readySearch", "()LLeastWished$Search;"⟩, 12) := ⟨⟨by decide +kernel, by decide +kernel⟩, List.mem_of_getElem? (i := 25) (by decide +kernel), List.mem_of_getElem? (i := 683) (by decide +kernel), List.mem_of_getElem? (i := 684) (by decide +kernel)⟩
theorem lw_p22 : lw_okq (⟨"LeastWished$Search", "add", "(JII)I"⟩, 12) := ⟨⟨by decide +kernel, by decide +kernel⟩, List.mem_of_getElem? (i := 687) (by decide +kernel), List.mem_of_getElem? (i := 750) (by decide +kernel), List.mem_of_getElem? (i := 751) (by decide +kernel)⟩
theorem lw_p23 : lw_okq (⟨"LeastWished$Search", "isWanted", "(I)Z"⟩, 12) := ⟨⟨by decide +kernel, by decide +kernel⟩, List.mem_of_getElem? (i := 687) (by decide +kernel), List.mem_of_getElem? (i := 755) (by decide +kernel), List.mem_of_getElem? (i := 756) (by decide +kernel)⟩
theorem lw_p24 : lw_okq (⟨"LeastWished$Search", "goOnFrom", "(I)I"⟩, 12) := ⟨⟨by decide +kernel, by decide +kernel⟩, List.mem_of_getElem? (i := 687) (by decide +kernel), List.mem_of_getElem? (i := 769) (by decide +kernel), List.mem_of_getElem? (i := 770) (by decide +kernel)⟩
theorem lw_p25 : lw_okq (⟨"LeastWished$Search", "bringUp", "(J)V"⟩, 12) := ⟨⟨by decide +kernel, by decide +kernel⟩, List.mem_of_getElem? (i := 687) (by decide +kernel), List.mem_of_getElem? (i := 773) (by decide +kernel), List.mem_of_getElem? (i := 774) (by decide +kernel)⟩
theorem lw_p26 : lw_okq (⟨"LeastWished$Search", "keyAfter", "(II)J"⟩, 12) := ⟨⟨by decide +kernel, by decide +kernel⟩, List.mem_of_getElem? (i := 687) (by decide +kernel), List.mem_of_getElem? (i := 780) (by decide +kernel), List.mem_of_getElem? (i := 781) (by decide +kernel)⟩
theorem lw_p27 : lw_okq (⟨"LeastWished", "tellPlan", "(LLeastWished$Search;I)V"⟩, 12) := ⟨⟨by decide +kernel, by decide +kernel⟩, List.mem_of_getElem? (i := 25) (by decide +kernel), List.mem_of_getElem? (i := 786) (by decide +kernel), List.mem_of_getElem? (i := 787) (by decide +kernel)⟩
theorem lw_p28 : lw_okq (⟨"LeastWished", "explainedBy", "(I)Z"⟩, 12) := ⟨⟨by decide +kernel, by decide +kernel⟩, List.mem_of_getElem? (i := 25) (by decide +kernel), List.mem_of_getElem? (i := 866) (by decide +kernel), List.mem_of_getElem? (i := 867) (by decide +kernel)⟩
theorem lw_p29 : lw_okq (⟨"LeastWished", "tellLiars", "(III)V"⟩, 12) := ⟨⟨by decide +kernel, by decide +kernel⟩, List.mem_of_getElem? (i := 25) (by decide +kernel), List.mem_of_getElem? (i := 878) (by decide +kernel), List.mem_of_getElem? (i := 879) (by decide +kernel)⟩
theorem lw_p30 : lw_okq (⟨"LeastWished", "weighStops", "()J"⟩, 12) := ⟨⟨by decide +kernel, by decide +kernel⟩, List.mem_of_getElem? (i := 25) (by decide +kernel), List.mem_of_getElem? (i := 896) (by decide +kernel), List.mem_of_getElem? (i := 897) (by decide +kernel)⟩
theorem lw_p31 : lw_okq (⟨"LeastWished", "weightOf", "(I)J"⟩, 12) := ⟨⟨by decide +kernel, by decide +kernel⟩, List.mem_of_getElem? (i := 25) (by decide +kernel), List.mem_of_getElem? (i := 900) (by decide +kernel), List.mem_of_getElem? (i := 901) (by decide +kernel)⟩
def lw_privs_2 : List (MethodName × Nat) := [(⟨"LeastWished", "bestWish", "(LLeastWished$Moment;I)I"⟩, 12), (⟨"LeastWished", "distanceBy", "(LLeastWished$Moment;II)I"⟩, 12), (⟨"LeastWished", "tellAnew", "(LLeastWished$Moment;)Z"⟩, 12), (⟨"LeastWished", "comeHome", "(II)I"⟩, 12), (⟨"LeastWished", "ridesTillHome", "(I)I"⟩, 12), (⟨"LeastWished", "readySearch", "()LLeastWished$Search;"⟩, 12), (⟨"LeastWished$Search", "add", "(JII)I"⟩, 12), (⟨"LeastWished$Search", "isWanted", "(I)Z"⟩, 12), (⟨"LeastWished$Search", "goOnFrom", "(I)I"⟩, 12), (⟨"LeastWished$Search", "bringUp", "(J)V"⟩, 12), (⟨"LeastWished$Search", "keyAfter", "(II)J"⟩, 12), (⟨"LeastWished", "tellPlan", "(LLeastWished$Search;I)V"⟩, 12), (⟨"LeastWished", "explainedBy", "(I)Z"⟩, 12), (⟨"LeastWished", "tellLiars", "(III)V"⟩, 12), (⟨"LeastWished", "weighStops", "()J"⟩, 12), (⟨"LeastWished", "weightOf", "(I)J"⟩, 12)]
theorem lw_r2 : ∀ q ∈ lw_privs_2, lw_okq q := List.forall_mem_cons.mpr ⟨lw_p16, List.forall_mem_cons.mpr ⟨lw_p17, List.forall_mem_cons.mpr ⟨lw_p18, List.forall_mem_cons.mpr ⟨lw_p19, List.forall_mem_cons.mpr ⟨lw_p20, List.forall_mem_cons.mpr ⟨lw_p21, List.forall_mem_cons.mpr ⟨lw_p22, List.forall_mem_cons.mpr ⟨lw_p23, List.forall_mem_cons.mpr ⟨lw_p24, List.forall_mem_cons.mpr ⟨lw_p25, List.forall_mem_cons.mpr ⟨lw_p26, List.forall_mem_cons.mpr ⟨lw_p27, List.forall_mem_cons.mpr ⟨lw_p28, List.forall_mem_cons.mpr ⟨lw_p29, List.forall_mem_cons.mpr ⟨lw_p30, List.forall_mem_cons.mpr ⟨lw_p31, fun _ h => absurd h List.not_mem_nil⟩⟩⟩⟩⟩⟩⟩⟩⟩⟩⟩⟩⟩⟩⟩⟩
theorem lw_p32 : lw_okq (⟨"LeastWished", "tellFraction", "(JJ)V"⟩, 12) := ⟨⟨by decide +kernel, by decide +kernel⟩, List.mem_of_getElem? (i := 25) (by decide +kernel), List.mem_of_getElem? (i := 904) (by decide +kernel), List.mem_of_getElem? (i := 905) (by decide +kernel)⟩
theorem lw_p33 : lw_okq (⟨"java/lang/Throwable", "fillInStackTrace", "(I)Ljava/lang/Throwable;"⟩, 6) := ⟨⟨by decide +kernel, by decide +kernel⟩, List.mem_of_getElem? (i := 973) (by decide +kernel), List.mem_of_getElem? (i := 971) (by decide +kernel), List.mem_of_getElem? (i := 972) (by decide +kernel)⟩
theorem lw_p34 : lw_okq (⟨"LeastWishedModel", "begins", "(I)I"⟩, 62) := ⟨⟨by decide +kernel, by decide +kernel⟩, List.mem_of_getElem? (i := 1046) (by decide +kernel), List.mem_of_getElem? (i := 1044) (by decide +kernel), List.mem_of_getElem? (i := 1045) (by decide +kernel)⟩
theorem lw_p35 : lw_okq (⟨"LeastWishedModel", "readsRider", "()Z"⟩, 62) := ⟨⟨by decide +kernel, by decide +kernel⟩, List.mem_of_getElem? (i := 1046) (by decide +kernel), List.mem_of_getElem? (i := 1050) (by decide +kernel), List.mem_of_getElem? (i := 1051) (by decide +kernel)⟩
theorem lw_p36 : lw_okq (⟨"LeastWishedModel", "readsFloor", "()I"⟩, 62) := ⟨⟨by decide +kernel, by decide +kernel⟩, List.mem_of_getElem? (i := 1046) (by decide +kernel), List.mem_of_getElem? (i := 1054) (by decide +kernel), List.mem_of_getElem? (i := 1055) (by decide +kernel)⟩
theorem lw_p37 : lw_okq (⟨"LeastWishedModel", "isDigit", "()Z"⟩, 62) := ⟨⟨by decide +kernel, by decide +kernel⟩, List.mem_of_getElem? (i := 1046) (by decide +kernel), List.mem_of_getElem? (i := 1058) (by decide +kernel), List.mem_of_getElem? (i := 1059) (by decide +kernel)⟩
theorem lw_p38 : lw_okq (⟨"LeastWishedModel", "isFloor", "(I)Z"⟩, 62) := ⟨⟨by decide +kernel, by decide +kernel⟩, List.mem_of_getElem? (i := 1046) (by decide +kernel), List.mem_of_getElem? (i := 1064) (by decide +kernel), List.mem_of_getElem? (i := 1065) (by decide +kernel)⟩
theorem lw_p39 : lw_okq (⟨"LeastWishedModel", "takes", "(I)Z"⟩, 62) := ⟨⟨by decide +kernel, by decide +kernel⟩, List.mem_of_getElem? (i := 1046) (by decide +kernel), List.mem_of_getElem? (i := 1068) (by decide +kernel), List.mem_of_getElem? (i := 1069) (by decide +kernel)⟩
theorem lw_p40 : lw_okq (⟨"LeastWishedModel", "faultOf", "(IIZ)I"⟩, 62) := ⟨⟨by decide +kernel, by decide +kernel⟩, List.mem_of_getElem? (i := 1046) (by decide +kernel), List.mem_of_getElem? (i := 1075) (by decide +kernel), List.mem_of_getElem? (i := 1076) (by decide +kernel)⟩
theorem lw_p41 : lw_okq (⟨"LeastWishedModel", "comes", "(IIII)V"⟩, 62) := ⟨⟨by decide +kernel, by decide +kernel⟩, List.mem_of_getElem? (i := 1046) (by decide +kernel), List.mem_of_getElem? (i := 1079) (by decide +kernel), List.mem_of_getElem? (i := 1080) (by decide +kernel)⟩
theorem lw_p42 : lw_okq (⟨"LeastWishedModel", "readsRank", "(I)Z"⟩, 62) := ⟨⟨by decide +kernel, by decide +kernel⟩, List.mem_of_getElem? (i := 1046) (by decide +kernel), List.mem_of_getElem? (i := 1087) (by decide +kernel), List.mem_of_getElem? (i := 1088) (by decide +kernel)⟩
theorem lw_p43 : lw_okq (⟨"LeastWishedModel", "readsThing", "()Z"⟩, 62) := ⟨⟨by decide +kernel, by decide +kernel⟩, List.mem_of_getElem? (i := 1046) (by decide +kernel), List.mem_of_getElem? (i := 1091) (by decide +kernel), List.mem_of_getElem? (i := 1092) (by decide +kernel)⟩
theorem lw_p44 : lw_okq (⟨"LeastWishedModel", "codes", "(I)V"⟩, 62) := ⟨⟨by decide +kernel, by decide +kernel⟩, List.mem_of_getElem? (i := 1046) (by decide +kernel), List.mem_of_getElem? (i := 1095) (by decide +kernel), List.mem_of_getElem? (i := 1096) (by decide +kernel)⟩
theorem lw_p45 : lw_okq (⟨"LeastWishedModel", "among", "(Ljava/lang/String;)I"⟩, 62) := ⟨⟨by decide +kernel, by decide +kernel⟩, List.mem_of_getElem? (i := 1046) (by decide +kernel), List.mem_of_getElem? (i := 1100) (by decide +kernel), List.mem_of_getElem? (i := 1101) (by decide +kernel)⟩
theorem lw_p46 : lw_okq (⟨"LeastWishedModel", "isRider", "(I)Z"⟩, 62) := ⟨⟨by decide +kernel, by decide +kernel⟩, List.mem_of_getElem? (i := 1046) (by decide +kernel), List.mem_of_getElem? (i := 1160) (by decide +kernel), List.mem_of_getElem? (i := 1161) (by decide +kernel)⟩
theorem lw_p47 : lw_okq (⟨"LeastWishedModel", "refuse", "()I"⟩, 62) := ⟨⟨by decide +kernel, by decide +kernel⟩, List.mem_of_getElem? (i := 1046) (by decide +kernel), List.mem_of_getElem? (i := 1165) (by decide +kernel), List.mem_of_getElem? (i := 1166) (by decide +kernel)⟩
def lw_privs_3 : List (MethodName × Nat) := [(⟨"LeastWished", "tellFraction", "(JJ)V"⟩, 12), (⟨"java/lang/Throwable", "fillInStackTrace", "(I)Ljava/lang/Throwable;"⟩, 6), (⟨"LeastWishedModel", "begins", "(I)I"⟩, 62), (⟨"LeastWishedModel", "readsRider", "()Z"⟩, 62), (⟨"LeastWishedModel", "readsFloor", "()I"⟩, 62), (⟨"LeastWishedModel", "isDigit", "()Z"⟩, 62), (⟨"LeastWishedModel", "isFloor", "(I)Z"⟩, 62), (⟨"LeastWishedModel", "takes", "(I)Z"⟩, 62), (⟨"LeastWishedModel", "faultOf", "(IIZ)I"⟩, 62), (⟨"LeastWishedModel", "comes", "(IIII)V"⟩, 62), (⟨"LeastWishedModel", "readsRank", "(I)Z"⟩, 62), (⟨"LeastWishedModel", "readsThing", "()Z"⟩, 62), (⟨"LeastWishedModel", "codes", "(I)V"⟩, 62), (⟨"LeastWishedModel", "among", "(Ljava/lang/String;)I"⟩, 62), (⟨"LeastWishedModel", "isRider", "(I)Z"⟩, 62), (⟨"LeastWishedModel", "refuse", "()I"⟩, 62)]
theorem lw_r3 : ∀ q ∈ lw_privs_3, lw_okq q := List.forall_mem_cons.mpr ⟨lw_p32, List.forall_mem_cons.mpr ⟨lw_p33, List.forall_mem_cons.mpr ⟨lw_p34, List.forall_mem_cons.mpr ⟨lw_p35, List.forall_mem_cons.mpr ⟨lw_p36, List.forall_mem_cons.mpr ⟨lw_p37, List.forall_mem_cons.mpr ⟨lw_p38, List.forall_mem_cons.mpr ⟨lw_p39, List.forall_mem_cons.mpr ⟨lw_p40, List.forall_mem_cons.mpr ⟨lw_p41, List.forall_mem_cons.mpr ⟨lw_p42, List.forall_mem_cons.mpr ⟨lw_p43, List.forall_mem_cons.mpr ⟨lw_p44, List.forall_mem_cons.mpr ⟨lw_p45, List.forall_mem_cons.mpr ⟨lw_p46, List.forall_mem_cons.mpr ⟨lw_p47, fun _ h => absurd h List.not_mem_nil⟩⟩⟩⟩⟩⟩⟩⟩⟩⟩⟩⟩⟩⟩⟩⟩
theorem lw_p48 : lw_okq (⟨"LeastWishedModel", "draws", "(I)I"⟩, 62) := ⟨⟨by decide +kernel, by decide +kernel⟩, List.mem_of_getElem? (i := 1046) (by decide +kernel), List.mem_of_getElem? (i := 1190) (by decide +kernel), List.mem_of_getElem? (i := 1191) (by decide +kernel)⟩
theorem lw_p49 : lw_okq (⟨"LeastWishedModel", "canEnter", "(I)Z"⟩, 62) := ⟨⟨by decide +kernel, by decide +kernel⟩, List.mem_of_getElem? (i := 1046) (by decide +kernel), List.mem_of_getElem? (i := 1203) (by decide +kernel), List.mem_of_getElem? (i := 1204) (by decide +kernel)⟩
theorem lw_p50 : lw_okq (⟨"LeastWishedModel", "putsBy", "()V"⟩, 62) := ⟨⟨by decide +kernel, by decide +kernel⟩, List.mem_of_getElem? (i := 1046) (by decide +kernel), List.mem_of_getElem? (i := 1207) (by decide +kernel), List.mem_of_getElem? (i := 1208) (by decide +kernel)⟩
theorem lw_p51 : lw_okq (⟨"LeastWishedModel", "adds", "()V"⟩, 62) := ⟨⟨by decide +kernel, by decide +kernel⟩, List.mem_of_getElem? (i := 1046) (by decide +kernel), List.mem_of_getElem? (i := 1211) (by decide +kernel), List.mem_of_getElem? (i := 1212) (by decide +kernel)⟩
theorem lw_p52 : lw_okq (⟨"LeastWishedModel", "canLeave", "(I)Z"⟩, 62) := ⟨⟨by decide +kernel, by decide +kernel⟩, List.mem_of_getElem? (i := 1046) (by decide +kernel), List.mem_of_getElem? (i := 1219) (by decide +kernel), List.mem_of_getElem? (i := 1220) (by decide +kernel)⟩
theorem lw_p53 : lw_okq (⟨"LeastWishedModel", "travels", "([II)I"⟩, 62) := ⟨⟨by decide +kernel, by decide +kernel⟩, List.mem_of_getElem? (i := 1046) (by decide +kernel), List.mem_of_getElem? (i := 1227) (by decide +kernel), List.mem_of_getElem? (i := 1228) (by decide +kernel)⟩
theorem lw_p54 : lw_okq (⟨"LeastWishedModel", "stopOf", "([II)I"⟩, 62) := ⟨⟨by decide +kernel, by decide +kernel⟩, List.mem_of_getElem? (i := 1046) (by decide +kernel), List.mem_of_getElem? (i := 1231) (by decide +kernel), List.mem_of_getElem? (i := 1232) (by decide +kernel)⟩
theorem lw_p55 : lw_okq (⟨"LeastWishedModel", "looks", "([II)V"⟩, 62) := ⟨⟨by decide +kernel, by decide +kernel⟩, List.mem_of_getElem? (i := 1046) (by decide +kernel), List.mem_of_getElem? (i := 1235) (by decide +kernel), List.mem_of_getElem? (i := 1236) (by decide +kernel)⟩
theorem lw_p56 : lw_okq (⟨"LeastWishedModel", "leastStop", "()I"⟩, 62) := ⟨⟨by decide +kernel, by decide +kernel⟩, List.mem_of_getElem? (i := 1046) (by decide +kernel), List.mem_of_getElem? (i := 1240) (by decide +kernel), List.mem_of_getElem? (i := 1241) (by decide +kernel)⟩
theorem lw_p57 : lw_okq (⟨"LeastWishedModel", "lawFor", "(I)I"⟩, 62) := ⟨⟨by decide +kernel, by decide +kernel⟩, List.mem_of_getElem? (i := 1046) (by decide +kernel), List.mem_of_getElem? (i := 1244) (by decide +kernel), List.mem_of_getElem? (i := 1245) (by decide +kernel)⟩
theorem lw_p58 : lw_okq (⟨"LeastWishedModel", "thingOf", "(II)I"⟩, 62) := ⟨⟨by decide +kernel, by decide +kernel⟩, List.mem_of_getElem? (i := 1046) (by decide +kernel), List.mem_of_getElem? (i := 1251) (by decide +kernel), List.mem_of_getElem? (i := 1252) (by decide +kernel)⟩
theorem lw_p59 : lw_okq (⟨"LeastWishedModel", "enters", "(J)V"⟩, 62) := ⟨⟨by decide +kernel, by decide +kernel⟩, List.mem_of_getElem? (i := 1046) (by decide +kernel), List.mem_of_getElem? (i := 1256) (by decide +kernel), List.mem_of_getElem? (i := 1257) (by decide +kernel)⟩
theorem lw_p60 : lw_okq (⟨"LeastWishedModel", "readsAct", "()Z"⟩, 62) := ⟨⟨by decide +kernel, by decide +kernel⟩, List.mem_of_getElem? (i := 1046) (by decide +kernel), List.mem_of_getElem? (i := 1269) (by decide +kernel), List.mem_of_getElem? (i := 1270) (by decide +kernel)⟩
theorem lw_p61 : lw_okq (⟨"LeastWishedModel", "does", "(I)Z"⟩, 62) := ⟨⟨by decide +kernel, by decide +kernel⟩, List.mem_of_getElem? (i := 1046) (by decide +kernel), List.mem_of_getElem? (i := 1274) (by decide +kernel), List.mem_of_getElem? (i := 1275) (by decide +kernel)⟩
theorem lw_p62 : lw_okq (⟨"LeastWishedModel", "there", "([I)I"⟩, 62) := ⟨⟨by decide +kernel, by decide +kernel⟩, List.mem_of_getElem? (i := 1046) (by decide +kernel), List.mem_of_getElem? (i := 1286) (by decide +kernel), List.mem_of_getElem? (i := 1287) (by decide +kernel)⟩
theorem lw_p63 : lw_okq (⟨"LeastWishedModel", "fewestOf", "(II)I"⟩, 62) := ⟨⟨by decide +kernel, by decide +kernel⟩, List.mem_of_getElem? (i := 1046) (by decide +kernel), List.mem_of_getElem? (i := 1302) (by decide +kernel), List.mem_of_getElem? (i := 1303) (by decide +kernel)⟩
def lw_privs_4 : List (MethodName × Nat) := [(⟨"LeastWishedModel", "draws", "(I)I"⟩, 62), (⟨"LeastWishedModel", "canEnter", "(I)Z"⟩, 62), (⟨"LeastWishedModel", "putsBy", "()V"⟩, 62), (⟨"LeastWishedModel", "adds", "()V"⟩, 62), (⟨"LeastWishedModel", "canLeave", "(I)Z"⟩, 62), (⟨"LeastWishedModel", "travels", "([II)I"⟩, 62), (⟨"LeastWishedModel", "stopOf", "([II)I"⟩, 62), (⟨"LeastWishedModel", "looks", "([II)V"⟩, 62), (⟨"LeastWishedModel", "leastStop", "()I"⟩, 62), (⟨"LeastWishedModel", "lawFor", "(I)I"⟩, 62), (⟨"LeastWishedModel", "thingOf", "(II)I"⟩, 62), (⟨"LeastWishedModel", "enters", "(J)V"⟩, 62), (⟨"LeastWishedModel", "readsAct", "()Z"⟩, 62), (⟨"LeastWishedModel", "does", "(I)Z"⟩, 62), (⟨"LeastWishedModel", "there", "([I)I"⟩, 62), (⟨"LeastWishedModel", "fewestOf", "(II)I"⟩, 62)]
theorem lw_r4 : ∀ q ∈ lw_privs_4, lw_okq q := List.forall_mem_cons.mpr ⟨lw_p48, List.forall_mem_cons.mpr ⟨lw_p49, List.forall_mem_cons.mpr ⟨lw_p50, List.forall_mem_cons.mpr ⟨lw_p51, List.forall_mem_cons.mpr ⟨lw_p52, List.forall_mem_cons.mpr ⟨lw_p53, List.forall_mem_cons.mpr ⟨lw_p54, List.forall_mem_cons.mpr ⟨lw_p55, List.forall_mem_cons.mpr ⟨lw_p56, List.forall_mem_cons.mpr ⟨lw_p57, List.forall_mem_cons.mpr ⟨lw_p58, List.forall_mem_cons.mpr ⟨lw_p59, List.forall_mem_cons.mpr ⟨lw_p60, List.forall_mem_cons.mpr ⟨lw_p61, List.forall_mem_cons.mpr ⟨lw_p62, List.forall_mem_cons.mpr ⟨lw_p63, fun _ h => absurd h List.not_mem_nil⟩⟩⟩⟩⟩⟩⟩⟩⟩⟩⟩⟩⟩⟩⟩⟩
theorem lw_p64 : lw_okq (⟨"LeastWishedModel", "bestWish", "([II)I"⟩, 62) := ⟨⟨by decide +kernel, by decide +kernel⟩, List.mem_of_getElem? (i := 1046) (by decide +kernel), List.mem_of_getElem? (i := 1314) (by decide +kernel), List.mem_of_getElem? (i := 1315) (by decide +kernel)⟩
theorem lw_p65 : lw_okq (⟨"LeastWishedModel", "countsRides", "()Z"⟩, 62) := ⟨⟨by decide +kernel, by decide +kernel⟩, List.mem_of_getElem? (i := 1046) (by decide +kernel), List.mem_of_getElem? (i := 1335) (by decide +kernel), List.mem_of_getElem? (i := 1336) (by decide +kernel)⟩
theorem lw_p66 : lw_okq (⟨"LeastWishedModel", "comeHome", "(II)I"⟩, 62) := ⟨⟨by decide +kernel, by decide +kernel⟩, List.mem_of_getElem? (i := 1046) (by decide +kernel), List.mem_of_getElem? (i := 1344) (by decide +kernel), List.mem_of_getElem? (i := 1345) (by decide +kernel)⟩
theorem lw_p67 : lw_okq (⟨"LeastWishedModel", "seeks", "(I)I"⟩, 62) := ⟨⟨by decide +kernel, by decide +kernel⟩, List.mem_of_getElem? (i := 1046) (by decide +kernel), List.mem_of_getElem? (i := 1357) (by decide +kernel), List.mem_of_getElem? (i := 1358) (by decide +kernel)⟩
theorem lw_p68 : lw_okq (⟨"LeastWishedModel", "findsFirst", "()V"⟩, 62) := ⟨⟨by decide +kernel, by decide +kernel⟩, List.mem_of_getElem? (i := 1046) (by decide +kernel), List.mem_of_getElem? (i := 1361) (by decide +kernel), List.mem_of_getElem? (i := 1362) (by decide +kernel)⟩
theorem lw_p69 : lw_okq (⟨"LeastWishedModel", "finds", "(II)V"⟩, 62) := ⟨⟨by decide +kernel, by decide +kernel⟩, List.mem_of_getElem? (i := 1046) (by decide +kernel), List.mem_of_getElem? (i := 1365) (by decide +kernel), List.mem_of_getElem? (i := 1366) (by decide +kernel)⟩
theorem lw_p70 : lw_okq (⟨"LeastWishedModel", "packed", "([I)J"⟩, 62) := ⟨⟨by decide +kernel, by decide +kernel⟩, List.mem_of_getElem? (i := 1046) (by decide +kernel), List.mem_of_getElem? (i := 1369) (by decide +kernel), List.mem_of_getElem? (i := 1370) (by decide +kernel)⟩
theorem lw_p71 : lw_okq (⟨"LeastWishedModel", "slotOf", "(J)I"⟩, 62) := ⟨⟨by decide +kernel, by decide +kernel⟩, List.mem_of_getElem? (i := 1046) (by decide +kernel), List.mem_of_getElem? (i := 1373) (by decide +kernel), List.mem_of_getElem? (i := 1374) (by decide +kernel)⟩
theorem lw_p72 : lw_okq (⟨"LeastWishedModel", "isAim", "(I)Z"⟩, 62) := ⟨⟨by decide +kernel, by decide +kernel⟩, List.mem_of_getElem? (i := 1046) (by decide +kernel), List.mem_of_getElem? (i := 1380) (by decide +kernel), List.mem_of_getElem? (i := 1381) (by decide +kernel)⟩
theorem lw_p73 : lw_okq (⟨"LeastWishedModel", "unpacks", "(I)V"⟩, 62) := ⟨⟨by decide +kernel, by decide +kernel⟩, List.mem_of_getElem? (i := 1046) (by decide +kernel), List.mem_of_getElem? (i := 1384) (by decide +kernel), List.mem_of_getElem? (i := 1385) (by decide +kernel)⟩
theorem lw_p74 : lw_okq (⟨"LeastWishedModel", "homeBits", "([I)I"⟩, 62) := ⟨⟨by decide +kernel, by decide +kernel⟩, List.mem_of_getElem? (i := 1046) (by decide +kernel), List.mem_of_getElem? (i := 1390) (by decide +kernel), List.mem_of_getElem? (i := 1391) (by decide +kernel)⟩
theorem lw_p75 : lw_okq (⟨"LeastWishedModel", "findsFrom", "(I)V"⟩, 62) := ⟨⟨by decide +kernel, by decide +kernel⟩, List.mem_of_getElem? (i := 1046) (by decide +kernel), List.mem_of_getElem? (i := 1394) (by decide +kernel), List.mem_of_getElem? (i := 1395) (by decide +kernel)⟩
theorem lw_p76 : lw_okq (⟨"LeastWishedModel", "tellsWay", "(I)I"⟩, 62) := ⟨⟨by decide +kernel, by decide +kernel⟩, List.mem_of_getElem? (i := 1046) (by decide +kernel), List.mem_of_getElem? (i := 1398) (by decide +kernel), List.mem_of_getElem? (i := 1399) (by decide +kernel)⟩
theorem lw_p77 : lw_okq (⟨"LeastWishedModel", "findsAll", "(I)I"⟩, 62) := ⟨⟨by decide +kernel, by decide +kernel⟩, List.mem_of_getElem? (i := 1046) (by decide +kernel), List.mem_of_getElem? (i := 1415) (by decide +kernel), List.mem_of_getElem? (i := 1416) (by decide +kernel)⟩
theorem lw_p78 : lw_okq (⟨"LeastWishedModel", "isSo", "(I)Z"⟩, 62) := ⟨⟨by decide +kernel, by decide +kernel⟩, List.mem_of_getElem? (i := 1046) (by decide +kernel), List.mem_of_getElem? (i := 1436) (by decide +kernel), List.mem_of_getElem? (i := 1437) (by decide +kernel)⟩
theorem lw_p79 : lw_okq (⟨"LeastWishedModel", "areSo", "()Z"⟩, 62) := ⟨⟨by decide +kernel, by decide +kernel⟩, List.mem_of_getElem? (i := 1046) (by decide +kernel), List.mem_of_getElem? (i := 1444) (by decide +kernel), List.mem_of_getElem? (i := 1445) (by decide +kernel)⟩
def lw_privs_5 : List (MethodName × Nat) := [(⟨"LeastWishedModel", "bestWish", "([II)I"⟩, 62), (⟨"LeastWishedModel", "countsRides", "()Z"⟩, 62), (⟨"LeastWishedModel", "comeHome", "(II)I"⟩, 62), (⟨"LeastWishedModel", "seeks", "(I)I"⟩, 62), (⟨"LeastWishedModel", "findsFirst", "()V"⟩, 62), (⟨"LeastWishedModel", "finds", "(II)V"⟩, 62), (⟨"LeastWishedModel", "packed", "([I)J"⟩, 62), (⟨"LeastWishedModel", "slotOf", "(J)I"⟩, 62), (⟨"LeastWishedModel", "isAim", "(I)Z"⟩, 62), (⟨"LeastWishedModel", "unpacks", "(I)V"⟩, 62), (⟨"LeastWishedModel", "homeBits", "([I)I"⟩, 62), (⟨"LeastWishedModel", "findsFrom", "(I)V"⟩, 62), (⟨"LeastWishedModel", "tellsWay", "(I)I"⟩, 62), (⟨"LeastWishedModel", "findsAll", "(I)I"⟩, 62), (⟨"LeastWishedModel", "isSo", "(I)Z"⟩, 62), (⟨"LeastWishedModel", "areSo", "()Z"⟩, 62)]
theorem lw_r5 : ∀ q ∈ lw_privs_5, lw_okq q := List.forall_mem_cons.mpr ⟨lw_p64, List.forall_mem_cons.mpr ⟨lw_p65, List.forall_mem_cons.mpr ⟨lw_p66, List.forall_mem_cons.mpr ⟨lw_p67, List.forall_mem_cons.mpr ⟨lw_p68, List.forall_mem_cons.mpr ⟨lw_p69, List.forall_mem_cons.mpr ⟨lw_p70, List.forall_mem_cons.mpr ⟨lw_p71, List.forall_mem_cons.mpr ⟨lw_p72, List.forall_mem_cons.mpr ⟨lw_p73, List.forall_mem_cons.mpr ⟨lw_p74, List.forall_mem_cons.mpr ⟨lw_p75, List.forall_mem_cons.mpr ⟨lw_p76, List.forall_mem_cons.mpr ⟨lw_p77, List.forall_mem_cons.mpr ⟨lw_p78, List.forall_mem_cons.mpr ⟨lw_p79, fun _ h => absurd h List.not_mem_nil⟩⟩⟩⟩⟩⟩⟩⟩⟩⟩⟩⟩⟩⟩⟩⟩
theorem lw_p80 : lw_okq (⟨"LeastWishedModel", "tellsLies", "(II)Z"⟩, 62) := ⟨⟨by decide +kernel, by decide +kernel⟩, List.mem_of_getElem? (i := 1046) (by decide +kernel), List.mem_of_getElem? (i := 1452) (by decide +kernel), List.mem_of_getElem? (i := 1453) (by decide +kernel)⟩
theorem lw_p81 : lw_okq (⟨"LeastWishedModel", "isTruly", "(II)Z"⟩, 62) := ⟨⟨by decide +kernel, by decide +kernel⟩, List.mem_of_getElem? (i := 1046) (by decide +kernel), List.mem_of_getElem? (i := 1460) (by decide +kernel), List.mem_of_getElem? (i := 1461) (by decide +kernel)⟩
theorem lw_p82 : lw_okq (⟨"LeastWishedModel", "betsAll", "()V"⟩, 62) := ⟨⟨by decide +kernel, by decide +kernel⟩, List.mem_of_getElem? (i := 1046) (by decide +kernel), List.mem_of_getElem? (i := 1468) (by decide +kernel), List.mem_of_getElem? (i := 1469) (by decide +kernel)⟩
theorem lw_p83 : lw_okq (⟨"LeastWishedModel", "bets", "(IJ)V"⟩, 62) := ⟨⟨by decide +kernel, by decide +kernel⟩, List.mem_of_getElem? (i := 1046) (by decide +kernel), List.mem_of_getElem? (i := 1473) (by decide +kernel), List.mem_of_getElem? (i := 1474) (by decide +kernel)⟩
theorem lw_p84 : lw_okq (⟨"LeastWishedModel", "entersFraction", "(JJ)V"⟩, 62) := ⟨⟨by decide +kernel, by decide +kernel⟩, List.mem_of_getElem? (i := 1046) (by decide +kernel), List.mem_of_getElem? (i := 1477) (by decide +kernel), List.mem_of_getElem? (i := 1478) (by decide +kernel)⟩
theorem lw_p85 : lw_okq (⟨"LeastWishedModel", "rideAlone", "(II)I"⟩, 62) := ⟨⟨by decide +kernel, by decide +kernel⟩, List.mem_of_getElem? (i := 1046) (by decide +kernel), List.mem_of_getElem? (i := 1492) (by decide +kernel), List.mem_of_getElem? (i := 1493) (by decide +kernel)⟩
def lw_privs_6 : List (MethodName × Nat) := [(⟨"LeastWishedModel", "tellsLies", "(II)Z"⟩, 62), (⟨"LeastWishedModel", "isTruly", "(II)Z"⟩, 62), (⟨"LeastWishedModel", "betsAll", "()V"⟩, 62), (⟨"LeastWishedModel", "bets", "(IJ)V"⟩, 62), (⟨"LeastWishedModel", "entersFraction", "(JJ)V"⟩, 62), (⟨"LeastWishedModel", "rideAlone", "(II)I"⟩, 62)]
theorem lw_r6 : ∀ q ∈ lw_privs_6, lw_okq q := List.forall_mem_cons.mpr ⟨lw_p80, List.forall_mem_cons.mpr ⟨lw_p81, List.forall_mem_cons.mpr ⟨lw_p82, List.forall_mem_cons.mpr ⟨lw_p83, List.forall_mem_cons.mpr ⟨lw_p84, List.forall_mem_cons.mpr ⟨lw_p85, fun _ h => absurd h List.not_mem_nil⟩⟩⟩⟩⟩⟩
def lw_privs : List (MethodName × Nat) := lw_privs_1 ++ (lw_privs_2 ++ (lw_privs_3 ++ (lw_privs_4 ++ (lw_privs_5 ++ (lw_privs_6)))))
def lw_tbl : List Cond := k2_sels lw_privs ++ tables_1
theorem lw_privs_ok : ∀ q ∈ lw_privs, lw_okq q := by
  show ∀ q ∈ lw_privs_1 ++ (lw_privs_2 ++ (lw_privs_3 ++ (lw_privs_4 ++ (lw_privs_5 ++ (lw_privs_6))))), lw_okq q
  exact List.forall_mem_append.mpr ⟨lw_r1, List.forall_mem_append.mpr ⟨lw_r2, List.forall_mem_append.mpr ⟨lw_r3, List.forall_mem_append.mpr ⟨lw_r4, List.forall_mem_append.mpr ⟨lw_r5, lw_r6⟩⟩⟩⟩⟩
end
section
def sw_T : List Cond := lw_tbl.filter goodWord
theorem sw_mem {w : Cond} (i : Nat) (h : lw_tbl[i]? = some w) (g : goodWord w = true) : w ∈ sw_T := List.mem_filter.mpr ⟨List.mem_of_getElem? h, g⟩
theorem sw_in (ws : List Cond) (ps : List Nat) (hp : ws = ps.filterMap (fun i => lw_tbl[i]?)) (hg : ws.all goodWord = true) : ∀ w ∈ ws, w ∈ sw_T := by
  intro w hw
  have h1 := List.all_eq_true.mp hg w hw
  rw [hp] at hw
  obtain ⟨i, -, hi⟩ := List.mem_filterMap.mp hw
  exact sw_mem i hi h1
theorem sw_good : GoodIn sw_T sw_T := fun w h => ⟨h, good_of_word (List.mem_filter.mp h).2⟩
def RX0 : String := "LeastWished$Day"
def TX0 : u_T := fun k => match k with
  | 0 => ("LeastWished$Day", "house", "LLeastWished$House;", true)
  | 1 => ("LeastWished$Day", "now", "LLeastWished$Moment;", true)
  | 2 => ("LeastWished$Day", "acts", "I", false)
  | 3 => ("LeastWished$Day", "rides", "I", false)
  | _ => ("LeastWished$Day", "deeds", "I", false)
def tyX0 : Nat → FieldType := fun k => match k with
  | 0 => .object "LeastWished$House"
  | 1 => .object "LeastWished$Moment"
  | 2 => .int
  | 3 => .int
  | _ => .int
theorem nmX0 : ∀ a, a < 5 → ∀ b, b < 5 → a ≠ b → (TX0 a).2.1 ≠ (TX0 b).2.1 := by decide +kernel
theorem tyX0_ok : ∀ k, k < 5 → parseFieldDescriptor (TX0 k).2.2.1 = some (tyX0 k) := by decide +kernel
abbrev cX0_init : ByteArray := prog_2_method_1_code
def yX0_init : MethodName := ⟨RX0, "<init>", "(LLeastWished$House;LLeastWished$Moment;)V"⟩
abbrev cX0_flawOf : ByteArray := prog_2_method_2_code
def yX0_flawOf : MethodName := ⟨RX0, "flawOf", "(LLeastWished$Text;)I"⟩
abbrev cX0_nextPlace : ByteArray := prog_2_method_3_code
def yX0_nextPlace : MethodName := ⟨RX0, "nextPlace", "(III)I"⟩
abbrev cX0_placeBehind : ByteArray := prog_2_method_4_code
def yX0_placeBehind : MethodName := ⟨RX0, "placeBehind", "(I)I"⟩
abbrev cX0_isLetter : ByteArray := prog_2_method_5_code
def yX0_isLetter : MethodName := ⟨RX0, "isLetter", "(I)Z"⟩
abbrev cX0_live : ByteArray := prog_2_method_6_code
def yX0_live : MethodName := ⟨RX0, "live", "(LLeastWished$Text;)Z"⟩
abbrev cX0_act : ByteArray := prog_2_method_7_code
def yX0_act : MethodName := ⟨RX0, "act", "(LLeastWished$Text;II)Z"⟩
abbrev cX0_pass : ByteArray := prog_2_method_8_code
def yX0_pass : MethodName := ⟨RX0, "pass", "(LLeastWished$Text;II)Z"⟩
abbrev cX0_wish : ByteArray := prog_2_method_9_code
def yX0_wish : MethodName := ⟨RX0, "wish", "(II)Z"⟩
def RX1 : String := "LeastWished$House"
def TX1 : u_T := fun k => match k with
  | 0 => ("LeastWished$House", "floors", "I", false)
  | 1 => ("LeastWished$House", "dogFloor", "I", false)
  | 2 => ("LeastWished$House", "riders", "I", false)
  | 3 => ("LeastWished$House", "home", "[I", true)
  | 4 => ("LeastWished$House", "truth", "[I", true)
  | 5 => ("LeastWished$House", "rule", "LLeastWished$Law;", true)
  | _ => ("LeastWished$House", "scene", "LLeastWished$Scene;", true)
def tyX1 : Nat → FieldType := fun k => match k with
  | 0 => .int
  | 1 => .int
  | 2 => .int
  | 3 => .array .int
  | 4 => .array .int
  | 5 => .object "LeastWished$Law"
  | _ => .object "LeastWished$Scene"
theorem nmX1 : ∀ a, a < 7 → ∀ b, b < 7 → a ≠ b → (TX1 a).2.1 ≠ (TX1 b).2.1 := by decide +kernel
theorem tyX1_ok : ∀ k, k < 7 → parseFieldDescriptor (TX1 k).2.2.1 = some (tyX1 k) := by decide +kernel
abbrev cX1_init : ByteArray := prog_3_method_1_code
def yX1_init : MethodName := ⟨RX1, "<init>", "()V"⟩
abbrev cX1_empty : ByteArray := prog_3_method_2_code
def yX1_empty : MethodName := ⟨RX1, "empty", "(I)V"⟩
abbrev cX1_hasFloor : ByteArray := prog_3_method_3_code
def yX1_hasFloor : MethodName := ⟨RX1, "hasFloor", "(I)Z"⟩
abbrev cX1_canBeWish : ByteArray := prog_3_method_4_code
def yX1_canBeWish : MethodName := ⟨RX1, "canBeWish", "(I)Z"⟩
abbrev cX1_hasRider : ByteArray := prog_3_method_5_code
def yX1_hasRider : MethodName := ⟨RX1, "hasRider", "(I)Z"⟩
abbrev cX1_everybody : ByteArray := prog_3_method_6_code
def yX1_everybody : MethodName := ⟨RX1, "everybody", "()I"⟩
abbrev cX1_look : ByteArray := prog_3_method_7_code
def yX1_look : MethodName := ⟨RX1, "look", "(LLeastWished$Moment;I)V"⟩
abbrev cX1_addAt : ByteArray := prog_3_method_8_code
def yX1_addAt : MethodName := ⟨RX1, "addAt", "([II)V"⟩
abbrev cX1_nextStop : ByteArray := prog_3_method_9_code
def yX1_nextStop : MethodName := ⟨RX1, "nextStop", "(LLeastWished$Moment;I)I"⟩
abbrev cX1_homeAt : ByteArray := prog_3_method_10_code
def yX1_homeAt : MethodName := ⟨RX1, "homeAt", "(II)I"⟩
abbrev cX1_carry : ByteArray := prog_3_method_11_code
def yX1_carry : MethodName := ⟨RX1, "carry", "(LLeastWished$Moment;)I"⟩
abbrev cX1_flawOfLines : ByteArray := prog_3_method_12_code
def yX1_flawOfLines : MethodName := ⟨RX1, "flawOfLines", "(LLeastWished$Text;I)I"⟩
abbrev cX1_nextPlace : ByteArray := prog_3_method_13_code
def yX1_nextPlace : MethodName := ⟨RX1, "nextPlace", "(IIZ)I"⟩
def RX2 : String := "LeastWished$Law"
def TX2 : u_T := fun k => match k with
  | 0 => ("LeastWished$Law", "code", "[I", true)
  | 1 => ("LeastWished$Law", "waiting", "[I", true)
  | 2 => ("LeastWished$Law", "values", "[I", true)
  | 3 => ("LeastWished$Law", "size", "I", false)
  | 4 => ("LeastWished$Law", "waitingCount", "I", false)
  | _ => ("LeastWished$Law", "asksRides", "Z", false)
def tyX2 : Nat → FieldType := fun k => match k with
  | 0 => .array .int
  | 1 => .array .int
  | 2 => .array .int
  | 3 => .int
  | 4 => .int
  | _ => .boolean
theorem nmX2 : ∀ a, a < 6 → ∀ b, b < 6 → a ≠ b → (TX2 a).2.1 ≠ (TX2 b).2.1 := by decide +kernel
theorem tyX2_ok : ∀ k, k < 6 → parseFieldDescriptor (TX2 k).2.2.1 = some (tyX2 k) := by decide +kernel
abbrev cX2_init : ByteArray := prog_4_method_1_code
def yX2_init : MethodName := ⟨RX2, "<init>", "()V"⟩
abbrev cX2_isDigit : ByteArray := prog_4_method_2_code
def yX2_isDigit : MethodName := ⟨RX2, "isDigit", "(I)Z"⟩
abbrev cX2_isName : ByteArray := prog_4_method_3_code
def yX2_isName : MethodName := ⟨RX2, "isName", "(I)Z"⟩
abbrev cX2_compares : ByteArray := prog_4_method_4_code
def yX2_compares : MethodName := ⟨RX2, "compares", "(I)Z"⟩
abbrev cX2_joinsTwo : ByteArray := prog_4_method_5_code
def yX2_joinsTwo : MethodName := ⟨RX2, "joinsTwo", "(I)Z"⟩
abbrev cX2_strength : ByteArray := prog_4_method_6_code
def yX2_strength : MethodName := ⟨RX2, "strength", "(I)I"⟩
abbrev cX2_flawOf : ByteArray := prog_4_method_7_code
def yX2_flawOf : MethodName := ⟨RX2, "flawOf", "(LLeastWished$Text;)I"⟩
abbrev cX2_take : ByteArray := prog_4_method_8_code
def yX2_take : MethodName := ⟨RX2, "take", "(LLeastWished$Text;)V"⟩
abbrev cX2_put : ByteArray := prog_4_method_9_code
def yX2_put : MethodName := ⟨RX2, "put", "(I)V"⟩
abbrev cX2_putDigit : ByteArray := prog_4_method_10_code
def yX2_putDigit : MethodName := ⟨RX2, "putDigit", "(IZ)V"⟩
abbrev cX2_await : ByteArray := prog_4_method_11_code
def yX2_await : MethodName := ⟨RX2, "await", "(I)V"⟩
abbrev cX2_release : ByteArray := prog_4_method_12_code
def yX2_release : MethodName := ⟨RX2, "release", "(I)V"⟩
abbrev cX2_worth : ByteArray := prog_4_method_13_code
def yX2_worth : MethodName := ⟨RX2, "worth", "(LLeastWished$Scene;I)I"⟩
abbrev cX2_named : ByteArray := prog_4_method_14_code
def yX2_named : MethodName := ⟨RX2, "named", "(ILLeastWished$Scene;I)I"⟩
abbrev cX2_joined : ByteArray := prog_4_method_15_code
def yX2_joined : MethodName := ⟨RX2, "joined", "(III)I"⟩
def RX3 : String := "LeastWished$Moment"
def TX3 : u_T := fun k => match k with
  | 0 => ("LeastWished$Moment", "at", "[I", true)
  | 1 => ("LeastWished$Moment", "wish", "[I", true)
  | 2 => ("LeastWished$Moment", "ridden", "[I", true)
  | 3 => ("LeastWished$Moment", "inside", "I", false)
  | 4 => ("LeastWished$Moment", "lift", "I", false)
  | _ => ("LeastWished$Moment", "rides", "I", false)
def tyX3 : Nat → FieldType := fun k => match k with
  | 0 => .array .int
  | 1 => .array .int
  | 2 => .array .int
  | 3 => .int
  | 4 => .int
  | _ => .int
theorem nmX3 : ∀ a, a < 6 → ∀ b, b < 6 → a ≠ b → (TX3 a).2.1 ≠ (TX3 b).2.1 := by decide +kernel
theorem tyX3_ok : ∀ k, k < 6 → parseFieldDescriptor (TX3 k).2.2.1 = some (tyX3 k) := by decide +kernel
abbrev cX3_init : ByteArray := prog_5_method_1_code
def yX3_init : MethodName := ⟨RX3, "<init>", "()V"⟩
abbrev cX3_clear : ByteArray := prog_5_method_2_code
def yX3_clear : MethodName := ⟨RX3, "clear", "()V"⟩
abbrev cX3_copy : ByteArray := prog_5_method_3_code
def yX3_copy : MethodName := ⟨RX3, "copy", "(LLeastWished$Moment;)V"⟩
abbrev cX3_isIn : ByteArray := prog_5_method_4_code
def yX3_isIn : MethodName := ⟨RX3, "isIn", "(I)Z"⟩
abbrev cX3_stands : ByteArray := prog_5_method_5_code
def yX3_stands : MethodName := ⟨RX3, "stands", "(I)Z"⟩
abbrev cX3_onFloor : ByteArray := prog_5_method_6_code
def yX3_onFloor : MethodName := ⟨RX3, "onFloor", "(I)I"⟩
def RX4 : String := "LeastWished$Past"
def TX4 : u_T := fun k => match k with
  | 0 => ("LeastWished$Past", "moments", "[LLeastWished$Moment;", true)
  | 1 => ("LeastWished$Past", "next", "I", false)
  | _ => ("LeastWished$Past", "size", "I", false)
def tyX4 : Nat → FieldType := fun k => match k with
  | 0 => .array (.object "LeastWished$Moment")
  | 1 => .int
  | _ => .int
theorem nmX4 : ∀ a, a < 3 → ∀ b, b < 3 → a ≠ b → (TX4 a).2.1 ≠ (TX4 b).2.1 := by decide +kernel
theorem tyX4_ok : ∀ k, k < 3 → parseFieldDescriptor (TX4 k).2.2.1 = some (tyX4 k) := by decide +kernel
abbrev cX4_init : ByteArray := prog_6_method_1_code
def yX4_init : MethodName := ⟨RX4, "<init>", "()V"⟩
abbrev cX4_prepare : ByteArray := prog_6_method_2_code
def yX4_prepare : MethodName := ⟨RX4, "prepare", "(LLeastWished$Moment;)V"⟩
abbrev cX4_commit : ByteArray := prog_6_method_3_code
def yX4_commit : MethodName := ⟨RX4, "commit", "()V"⟩
abbrev cX4_bringBack : ByteArray := prog_6_method_4_code
def yX4_bringBack : MethodName := ⟨RX4, "bringBack", "(LLeastWished$Moment;)Z"⟩
def RX5 : String := "LeastWished$Scene"
def TX5 : u_T := fun k => match k with
  | 0 => ("LeastWished$Scene", "wished", "[I", true)
  | 1 => ("LeastWished$Scene", "standing", "[I", true)
  | 2 => ("LeastWished$Scene", "in", "I", false)
  | 3 => ("LeastWished$Scene", "lift", "I", false)
  | _ => ("LeastWished$Scene", "rides", "I", false)
def tyX5 : Nat → FieldType := fun k => match k with
  | 0 => .array .int
  | 1 => .array .int
  | 2 => .int
  | 3 => .int
  | _ => .int
theorem nmX5 : ∀ a, a < 5 → ∀ b, b < 5 → a ≠ b → (TX5 a).2.1 ≠ (TX5 b).2.1 := by decide +kernel
theorem tyX5_ok : ∀ k, k < 5 → parseFieldDescriptor (TX5 k).2.2.1 = some (tyX5 k) := by decide +kernel
abbrev cX5_init : ByteArray := prog_7_method_1_code
def yX5_init : MethodName := ⟨RX5, "<init>", "()V"⟩
def RX6 : String := "LeastWished$Search"
def TX6 : u_T := fun k => match k with
  | 0 => ("LeastWished$Search", "house", "LLeastWished$House;", true)
  | 1 => ("LeastWished$Search", "moment", "LLeastWished$Moment;", true)
  | 2 => ("LeastWished$Search", "keys", "[J", true)
  | 3 => ("LeastWished$Search", "cameFrom", "[I", true)
  | 4 => ("LeastWished$Search", "taken", "[I", true)
  | 5 => ("LeastWished$Search", "depth", "[I", true)
  | 6 => ("LeastWished$Search", "slots", "[I", true)
  | 7 => ("LeastWished$Search", "found", "I", false)
  | 8 => ("LeastWished$Search", "more", "Z", false)
  | 9 => ("LeastWished$Search", "wanted", "I", false)
  | 10 => ("LeastWished$Search", "wantedThose", "I", false)
  | _ => ("LeastWished$Search", "wantedFloor", "I", false)
def tyX6 : Nat → FieldType := fun k => match k with
  | 0 => .object "LeastWished$House"
  | 1 => .object "LeastWished$Moment"
  | 2 => .array .long
  | 3 => .array .int
  | 4 => .array .int
  | 5 => .array .int
  | 6 => .array .int
  | 7 => .int
  | 8 => .boolean
  | 9 => .int
  | 10 => .int
  | _ => .int
theorem nmX6 : ∀ a, a < 12 → ∀ b, b < 12 → a ≠ b → (TX6 a).2.1 ≠ (TX6 b).2.1 := by decide +kernel
theorem tyX6_ok : ∀ k, k < 12 → parseFieldDescriptor (TX6 k).2.2.1 = some (tyX6 k) := by decide +kernel
abbrev cX6_init : ByteArray := prog_8_method_1_code
def yX6_init : MethodName := ⟨RX6, "<init>", "(LLeastWished$House;)V"⟩
abbrev cX6_wantNothing : ByteArray := prog_8_method_2_code
def yX6_wantNothing : MethodName := ⟨RX6, "wantNothing", "()V"⟩
abbrev cX6_wantHome : ByteArray := prog_8_method_3_code
def yX6_wantHome : MethodName := ⟨RX6, "wantHome", "(I)V"⟩
abbrev cX6_wantGathered : ByteArray := prog_8_method_4_code
def yX6_wantGathered : MethodName := ⟨RX6, "wantGathered", "(II)V"⟩
abbrev cX6_seek : ByteArray := prog_8_method_5_code
def yX6_seek : MethodName := ⟨RX6, "seek", "(LLeastWished$Moment;I)I"⟩
abbrev cX6_goOnFrom : ByteArray := prog_8_method_6_code
def yX6_goOnFrom : MethodName := ⟨RX6, "goOnFrom", "(I)I"⟩
abbrev cX6_keyOf : ByteArray := prog_8_method_7_code
def yX6_keyOf : MethodName := ⟨RX6, "keyOf", "(LLeastWished$Moment;)J"⟩
abbrev cX6_bringUp : ByteArray := prog_8_method_8_code
def yX6_bringUp : MethodName := ⟨RX6, "bringUp", "(J)V"⟩
abbrev cX6_floorOf : ByteArray := prog_8_method_9_code
def yX6_floorOf : MethodName := ⟨RX6, "floorOf", "(JI)I"⟩
abbrev cX6_liftOf : ByteArray := prog_8_method_10_code
def yX6_liftOf : MethodName := ⟨RX6, "liftOf", "(J)I"⟩
abbrev cX6_keyAfter : ByteArray := prog_8_method_11_code
def yX6_keyAfter : MethodName := ⟨RX6, "keyAfter", "(II)J"⟩
abbrev cX6_add : ByteArray := prog_8_method_12_code
def yX6_add : MethodName := ⟨RX6, "add", "(JII)I"⟩
abbrev cX6_isWanted : ByteArray := prog_8_method_13_code
def yX6_isWanted : MethodName := ⟨RX6, "isWanted", "(I)Z"⟩
abbrev cX6_onFloor : ByteArray := prog_8_method_14_code
def yX6_onFloor : MethodName := ⟨RX6, "onFloor", "(JI)I"⟩
abbrev cX6_everHome : ByteArray := prog_8_method_15_code
def yX6_everHome : MethodName := ⟨RX6, "everHome", "()I"⟩
abbrev cX6_everStopped : ByteArray := prog_8_method_16_code
def yX6_everStopped : MethodName := ⟨RX6, "everStopped", "()I"⟩
def RX7 : String := "LeastWished$Seen"
def TX7 : u_T := fun k => match k with
  | 0 => ("LeastWished$Seen", "from", "[I", true)
  | 1 => ("LeastWished$Seen", "those", "[I", true)
  | 2 => ("LeastWished$Seen", "to", "[I", true)
  | 3 => ("LeastWished$Seen", "alone", "LLeastWished$Moment;", true)
  | _ => ("LeastWished$Seen", "size", "I", false)
def tyX7 : Nat → FieldType := fun k => match k with
  | 0 => .array .int
  | 1 => .array .int
  | 2 => .array .int
  | 3 => .object "LeastWished$Moment"
  | _ => .int
theorem nmX7 : ∀ a, a < 5 → ∀ b, b < 5 → a ≠ b → (TX7 a).2.1 ≠ (TX7 b).2.1 := by decide +kernel
theorem tyX7_ok : ∀ k, k < 5 → parseFieldDescriptor (TX7 k).2.2.1 = some (tyX7 k) := by decide +kernel
abbrev cX7_init : ByteArray := prog_9_method_1_code
def yX7_init : MethodName := ⟨RX7, "<init>", "()V"⟩
abbrev cX7_add : ByteArray := prog_9_method_2_code
def yX7_add : MethodName := ⟨RX7, "add", "(III)V"⟩
abbrev cX7_believe : ByteArray := prog_9_method_3_code
def yX7_believe : MethodName := ⟨RX7, "believe", "([I)V"⟩
abbrev cX7_notSo : ByteArray := prog_9_method_4_code
def yX7_notSo : MethodName := ⟨RX7, "notSo", "(LLeastWished$House;)I"⟩
abbrev cX7_allSo : ByteArray := prog_9_method_5_code
def yX7_allSo : MethodName := ⟨RX7, "allSo", "(LLeastWished$House;)Z"⟩
abbrev cX7_allSoIf : ByteArray := prog_9_method_6_code
def yX7_allSoIf : MethodName := ⟨RX7, "allSoIf", "(LLeastWished$House;II)Z"⟩
abbrev cX7_otherWishSo : ByteArray := prog_9_method_7_code
def yX7_otherWishSo : MethodName := ⟨RX7, "otherWishSo", "(LLeastWished$House;III)I"⟩
abbrev cX7_soWithOneMore : ByteArray := prog_9_method_8_code
def yX7_soWithOneMore : MethodName := ⟨RX7, "soWithOneMore", "(LLeastWished$House;II)Z"⟩
def RX8 : String := "LeastWished$Text"
def TX8 : u_T := fun k => match k with
  | 0 => ("LeastWished$Text", "signs", "[I", true)
  | _ => ("LeastWished$Text", "size", "I", false)
def tyX8 : Nat → FieldType := fun k => match k with
  | 0 => .array .int
  | _ => .int
theorem nmX8 : ∀ a, a < 2 → ∀ b, b < 2 → a ≠ b → (TX8 a).2.1 ≠ (TX8 b).2.1 := by decide +kernel
theorem tyX8_ok : ∀ k, k < 2 → parseFieldDescriptor (TX8 k).2.2.1 = some (tyX8 k) := by decide +kernel
abbrev cX8_init : ByteArray := prog_10_method_1_code
def yX8_init : MethodName := ⟨RX8, "<init>", "()V"⟩
abbrev cX8_put : ByteArray := prog_10_method_2_code
def yX8_put : MethodName := ⟨RX8, "put", "(I)V"⟩
abbrev cX8_at : ByteArray := prog_10_method_3_code
def yX8_at : MethodName := ⟨RX8, "at", "(I)I"⟩
abbrev cX8_flawAtEnd : ByteArray := prog_10_method_4_code
def yX8_flawAtEnd : MethodName := ⟨RX8, "flawAtEnd", "(IZ)I"⟩
def RX9 : String := "LeastWished"
def TX9 : u_T := fun k => match k with
  | 0 => ("LeastWished", "text", "LLeastWished$Text;", true)
  | 1 => ("LeastWished", "building", "LLeastWished$House;", true)
  | 2 => ("LeastWished", "now", "LLeastWished$Moment;", true)
  | 3 => ("LeastWished", "trial", "LLeastWished$Moment;", true)
  | 4 => ("LeastWished", "past", "LLeastWished$Past;", true)
  | 5 => ("LeastWished", "kept", "[LLeastWished$Moment;", true)
  | 6 => ("LeastWished", "isKept", "[Z", true)
  | 7 => ("LeastWished", "seen", "LLeastWished$Seen;", true)
  | 8 => ("LeastWished", "chances", "[J", true)
  | 9 => ("LeastWished", "told", "[J", true)
  | 10 => ("LeastWished", "toldCount", "I", false)
  | _ => ("LeastWished", "search", "LLeastWished$Search;", false)
def tyX9 : Nat → FieldType := fun k => match k with
  | 0 => .object "LeastWished$Text"
  | 1 => .object "LeastWished$House"
  | 2 => .object "LeastWished$Moment"
  | 3 => .object "LeastWished$Moment"
  | 4 => .object "LeastWished$Past"
  | 5 => .array (.object "LeastWished$Moment")
  | 6 => .array .boolean
  | 7 => .object "LeastWished$Seen"
  | 8 => .array .long
  | 9 => .array .long
  | 10 => .int
  | _ => .object "LeastWished$Search"
theorem nmX9 : ∀ a, a < 12 → ∀ b, b < 12 → a ≠ b → (TX9 a).2.1 ≠ (TX9 b).2.1 := by decide +kernel
theorem tyX9_ok : ∀ k, k < 12 → parseFieldDescriptor (TX9 k).2.2.1 = some (tyX9 k) := by decide +kernel
abbrev cX9_init : ByteArray := prog_1_method_1_code
def yX9_init : MethodName := ⟨RX9, "<init>", "()V"⟩
abbrev cX9_sign : ByteArray := prog_1_method_2_code
def yX9_sign : MethodName := ⟨RX9, "sign", "(I)I"⟩
abbrev cX9_end : ByteArray := prog_1_method_3_code
def yX9_end : MethodName := ⟨RX9, "end", "(I)Z"⟩
abbrev cX9_floors : ByteArray := prog_1_method_4_code
def yX9_floors : MethodName := ⟨RX9, "floors", "(I)Z"⟩
abbrev cX9_house : ByteArray := prog_1_method_5_code
def yX9_house : MethodName := ⟨RX9, "house", "()I"⟩
abbrev cX9_law : ByteArray := prog_1_method_6_code
def yX9_law : MethodName := ⟨RX9, "law", "()I"⟩
abbrev cX9_of : ByteArray := prog_1_method_7_code
def yX9_of : MethodName := ⟨RX9, "of", "(II)I"⟩
abbrev cX9_set : ByteArray := prog_1_method_8_code
def yX9_set : MethodName := ⟨RX9, "set", "(III)Z"⟩
abbrev cX9_sheet : ByteArray := prog_1_method_9_code
def yX9_sheet : MethodName := ⟨RX9, "sheet", "(IIII)I"⟩
abbrev cX9_dog : ByteArray := prog_1_method_10_code
def yX9_dog : MethodName := ⟨RX9, "dog", "(I)Z"⟩
abbrev cX9_crowd : ByteArray := prog_1_method_11_code
def yX9_crowd : MethodName := ⟨RX9, "crowd", "(II)I"⟩
abbrev cX9_enter : ByteArray := prog_1_method_12_code
def yX9_enter : MethodName := ⟨RX9, "enter", "(I)Z"⟩
abbrev cX9_leave : ByteArray := prog_1_method_13_code
def yX9_leave : MethodName := ⟨RX9, "leave", "(I)Z"⟩
abbrev cX9_ride : ByteArray := prog_1_method_14_code
def yX9_ride : MethodName := ⟨RX9, "ride", "()I"⟩
abbrev cX9_rides : ByteArray := prog_1_method_15_code
def yX9_rides : MethodName := ⟨RX9, "rides", "(I)I"⟩
abbrev cX9_day : ByteArray := prog_1_method_16_code
def yX9_day : MethodName := ⟨RX9, "day", "()I"⟩
abbrev cX9_undo : ByteArray := prog_1_method_17_code
def yX9_undo : MethodName := ⟨RX9, "undo", "()I"⟩
abbrev cX9_stop : ByteArray := prog_1_method_18_code
def yX9_stop : MethodName := ⟨RX9, "stop", "()I"⟩
abbrev cX9_goes : ByteArray := prog_1_method_19_code
def yX9_goes : MethodName := ⟨RX9, "goes", "(I)I"⟩
abbrev cX9_worthOf : ByteArray := prog_1_method_20_code
def yX9_worthOf : MethodName := ⟨RX9, "worthOf", "(I)I"⟩
abbrev cX9_can : ByteArray := prog_1_method_21_code
def yX9_can : MethodName := ⟨RX9, "can", "()I"⟩
abbrev cX9_along : ByteArray := prog_1_method_22_code
def yX9_along : MethodName := ⟨RX9, "along", "(I)I"⟩
abbrev cX9_without : ByteArray := prog_1_method_23_code
def yX9_without : MethodName := ⟨RX9, "without", "(I)I"⟩
abbrev cX9_advise : ByteArray := prog_1_method_24_code
def yX9_advise : MethodName := ⟨RX9, "advise", "(I)I"⟩
abbrev cX9_rests : ByteArray := prog_1_method_25_code
def yX9_rests : MethodName := ⟨RX9, "rests", "(I)I"⟩
abbrev cX9_then : ByteArray := prog_1_method_26_code
def yX9_then : MethodName := ⟨RX9, "then", "(I)I"⟩
abbrev cX9_since : ByteArray := prog_1_method_27_code
def yX9_since : MethodName := ⟨RX9, "since", "(I)I"⟩
abbrev cX9_ballast : ByteArray := prog_1_method_28_code
def yX9_ballast : MethodName := ⟨RX9, "ballast", "(II)I"⟩
abbrev cX9_hinders : ByteArray := prog_1_method_29_code
def yX9_hinders : MethodName := ⟨RX9, "hinders", "(I)I"⟩
abbrev cX9_all : ByteArray := prog_1_method_30_code
def yX9_all : MethodName := ⟨RX9, "all", "()I"⟩
abbrev cX9_one : ByteArray := prog_1_method_31_code
def yX9_one : MethodName := ⟨RX9, "one", "(I)I"⟩
abbrev cX9_gather : ByteArray := prog_1_method_32_code
def yX9_gather : MethodName := ⟨RX9, "gather", "(II)I"⟩
abbrev cX9_states : ByteArray := prog_1_method_33_code
def yX9_states : MethodName := ⟨RX9, "states", "(I)I"⟩
abbrev cX9_stuck : ByteArray := prog_1_method_34_code
def yX9_stuck : MethodName := ⟨RX9, "stuck", "()I"⟩
abbrev cX9_saw : ByteArray := prog_1_method_35_code
def yX9_saw : MethodName := ⟨RX9, "saw", "(III)I"⟩
abbrev cX9_forget : ByteArray := prog_1_method_36_code
def yX9_forget : MethodName := ⟨RX9, "forget", "()I"⟩
abbrev cX9_believed : ByteArray := prog_1_method_37_code
def yX9_believed : MethodName := ⟨RX9, "believed", "()I"⟩
abbrev cX9_fits : ByteArray := prog_1_method_38_code
def yX9_fits : MethodName := ⟨RX9, "fits", "(I)I"⟩
abbrev cX9_lies : ByteArray := prog_1_method_39_code
def yX9_lies : MethodName := ⟨RX9, "lies", "()I"⟩
abbrev cX9_truly : ByteArray := prog_1_method_40_code
def yX9_truly : MethodName := ⟨RX9, "truly", "(I)I"⟩
abbrev cX9_odds : ByteArray := prog_1_method_41_code
def yX9_odds : MethodName := ⟨RX9, "odds", "(I)I"⟩
abbrev cX9_likely : ByteArray := prog_1_method_42_code
def yX9_likely : MethodName := ⟨RX9, "likely", "()I"⟩
abbrev cX9_split : ByteArray := prog_1_method_43_code
def yX9_split : MethodName := ⟨RX9, "split", "()I"⟩
abbrev cX9_keep : ByteArray := prog_1_method_44_code
def yX9_keep : MethodName := ⟨RX9, "keep", "(I)Z"⟩
abbrev cX9_again : ByteArray := prog_1_method_45_code
def yX9_again : MethodName := ⟨RX9, "again", "(I)Z"⟩
abbrev cX9_count : ByteArray := prog_1_method_46_code
def yX9_count : MethodName := ⟨RX9, "count", "(I)I"⟩
abbrev cX9_row : ByteArray := prog_1_method_47_code
def yX9_row : MethodName := ⟨RX9, "row", "(I)J"⟩
abbrev cX9_clearRow : ByteArray := prog_1_method_48_code
def yX9_clearRow : MethodName := ⟨RX9, "clearRow", "()V"⟩
abbrev cX9_tell : ByteArray := prog_1_method_49_code
def yX9_tell : MethodName := ⟨RX9, "tell", "(J)V"⟩
abbrev cX9_tellFraction : ByteArray := prog_1_method_50_code
def yX9_tellFraction : MethodName := ⟨RX9, "tellFraction", "(JJ)V"⟩
abbrev cX9_setsOf : ByteArray := prog_1_method_51_code
def yX9_setsOf : MethodName := ⟨RX9, "setsOf", "(I)I"⟩
abbrev cX9_nextSet : ByteArray := prog_1_method_52_code
def yX9_nextSet : MethodName := ⟨RX9, "nextSet", "(II)I"⟩
abbrev cX9_takeLines : ByteArray := prog_1_method_53_code
def yX9_takeLines : MethodName := ⟨RX9, "takeLines", "()I"⟩
abbrev cX9_addRider : ByteArray := prog_1_method_54_code
def yX9_addRider : MethodName := ⟨RX9, "addRider", "(IIIZ)V"⟩
abbrev cX9_forgetWhatWas : ByteArray := prog_1_method_55_code
def yX9_forgetWhatWas : MethodName := ⟨RX9, "forgetWhatWas", "()V"⟩
abbrev cX9_nextDrawn : ByteArray := prog_1_method_56_code
def yX9_nextDrawn : MethodName := ⟨RX9, "nextDrawn", "(I)I"⟩
abbrev cX9_ofFloors : ByteArray := prog_1_method_57_code
def yX9_ofFloors : MethodName := ⟨RX9, "ofFloors", "(I)I"⟩
abbrev cX9_asKind : ByteArray := prog_1_method_58_code
def yX9_asKind : MethodName := ⟨RX9, "asKind", "(II)I"⟩
abbrev cX9_fewestMoved : ByteArray := prog_1_method_59_code
def yX9_fewestMoved : MethodName := ⟨RX9, "fewestMoved", "(II)I"⟩
abbrev cX9_distanceBy : ByteArray := prog_1_method_60_code
def yX9_distanceBy : MethodName := ⟨RX9, "distanceBy", "(LLeastWished$Moment;II)I"⟩
abbrev cX9_bestWish : ByteArray := prog_1_method_61_code
def yX9_bestWish : MethodName := ⟨RX9, "bestWish", "(LLeastWished$Moment;I)I"⟩
abbrev cX9_tellAnew : ByteArray := prog_1_method_62_code
def yX9_tellAnew : MethodName := ⟨RX9, "tellAnew", "(LLeastWished$Moment;)Z"⟩
abbrev cX9_comeHome : ByteArray := prog_1_method_63_code
def yX9_comeHome : MethodName := ⟨RX9, "comeHome", "(II)I"⟩
abbrev cX9_readySearch : ByteArray := prog_1_method_64_code
def yX9_readySearch : MethodName := ⟨RX9, "readySearch", "()LLeastWished$Search;"⟩
abbrev cX9_ridesTillHome : ByteArray := prog_1_method_65_code
def yX9_ridesTillHome : MethodName := ⟨RX9, "ridesTillHome", "(I)I"⟩
abbrev cX9_tellPlan : ByteArray := prog_1_method_66_code
def yX9_tellPlan : MethodName := ⟨RX9, "tellPlan", "(LLeastWished$Search;I)V"⟩
abbrev cX9_explainedBy : ByteArray := prog_1_method_67_code
def yX9_explainedBy : MethodName := ⟨RX9, "explainedBy", "(I)Z"⟩
abbrev cX9_tellLiars : ByteArray := prog_1_method_68_code
def yX9_tellLiars : MethodName := ⟨RX9, "tellLiars", "(III)V"⟩
abbrev cX9_addChance : ByteArray := prog_1_method_69_code
def yX9_addChance : MethodName := ⟨RX9, "addChance", "(IJ)V"⟩
abbrev cX9_weighStops : ByteArray := prog_1_method_70_code
def yX9_weighStops : MethodName := ⟨RX9, "weighStops", "()J"⟩
abbrev cX9_weightOf : ByteArray := prog_1_method_71_code
def yX9_weightOf : MethodName := ⟨RX9, "weightOf", "(I)J"⟩
def RX10 : String := "LeastWishedModel"
def TX10 : u_T := fun k => match k with
  | 0 => ("LeastWishedModel", "thrown", "I", false)
  | 1 => ("LeastWishedModel", "rows", "I", false)
  | 2 => ("LeastWishedModel", "row", "[J", true)
  | 3 => ("LeastWishedModel", "floors", "I", false)
  | 4 => ("LeastWishedModel", "riders", "I", false)
  | 5 => ("LeastWishedModel", "dog", "I", false)
  | 6 => ("LeastWishedModel", "changes", "I", false)
  | 7 => ("LeastWishedModel", "home", "[I", true)
  | 8 => ("LeastWishedModel", "truth", "[I", true)
  | 9 => ("LeastWishedModel", "now", "[I", true)
  | 10 => ("LeastWishedModel", "next", "[I", true)
  | 11 => ("LeastWishedModel", "tape", "[I", true)
  | 12 => ("LeastWishedModel", "taped", "I", false)
  | 13 => ("LeastWishedModel", "at", "I", false)
  | 14 => ("LeastWishedModel", "to", "I", false)
  | 15 => ("LeastWishedModel", "nest", "I", false)
  | 16 => ("LeastWishedModel", "readHome", "[I", true)
  | 17 => ("LeastWishedModel", "readWish", "[I", true)
  | 18 => ("LeastWishedModel", "readPlace", "[I", true)
  | 19 => ("LeastWishedModel", "readMany", "I", false)
  | 20 => ("LeastWishedModel", "readIn", "I", false)
  | 21 => ("LeastWishedModel", "code", "[I", true)
  | 22 => ("LeastWishedModel", "readCode", "[I", true)
  | 23 => ("LeastWishedModel", "codeLong", "I", false)
  | 24 => ("LeastWishedModel", "readLong", "I", false)
  | 25 => ("LeastWishedModel", "stack", "[I", true)
  | 26 => ("LeastWishedModel", "wished", "[I", true)
  | 27 => ("LeastWishedModel", "standing", "[I", true)
  | 28 => ("LeastWishedModel", "askedIn", "I", false)
  | 29 => ("LeastWishedModel", "askedLift", "I", false)
  | 30 => ("LeastWishedModel", "askedRides", "I", false)
  | 31 => ("LeastWishedModel", "random", "I", false)
  | 32 => ("LeastWishedModel", "undos", "I", false)
  | 33 => ("LeastWishedModel", "undone", "[I", true)
  | 34 => ("LeastWishedModel", "actSign", "[I", true)
  | 35 => ("LeastWishedModel", "actBits", "[I", true)
  | 36 => ("LeastWishedModel", "actWish", "[I", true)
  | 37 => ("LeastWishedModel", "actMany", "[I", true)
  | 38 => ("LeastWishedModel", "acts", "I", false)
  | 39 => ("LeastWishedModel", "didSome", "I", false)
  | 40 => ("LeastWishedModel", "rodeNow", "I", false)
  | 41 => ("LeastWishedModel", "ways", "[I", true)
  | 42 => ("LeastWishedModel", "bestFar", "I", false)
  | 43 => ("LeastWishedModel", "found", "[J", true)
  | 44 => ("LeastWishedModel", "from", "[I", true)
  | 45 => ("LeastWishedModel", "by", "[I", true)
  | 46 => ("LeastWishedModel", "far", "[I", true)
  | 47 => ("LeastWishedModel", "slots", "[I", true)
  | 48 => ("LeastWishedModel", "foundMany", "I", false)
  | 49 => ("LeastWishedModel", "isFull", "Z", false)
  | 50 => ("LeastWishedModel", "aim", "I", false)
  | 51 => ("LeastWishedModel", "aimWho", "I", false)
  | 52 => ("LeastWishedModel", "aimFloor", "I", false)
  | 53 => ("LeastWishedModel", "way", "[I", true)
  | 54 => ("LeastWishedModel", "seens", "I", false)
  | 55 => ("LeastWishedModel", "seenFrom", "[I", true)
  | 56 => ("LeastWishedModel", "seenWho", "[I", true)
  | 57 => ("LeastWishedModel", "seenTo", "[I", true)
  | 58 => ("LeastWishedModel", "chance", "[J", true)
  | 59 => ("LeastWishedModel", "isKept", "[Z", true)
  | 60 => ("LeastWishedModel", "keptChanges", "[I", true)
  | _ => ("LeastWishedModel", "kept", "[I", true)
def tyX10 : Nat → FieldType := fun k => match k with
  | 0 => .int
  | 1 => .int
  | 2 => .array .long
  | 3 => .int
  | 4 => .int
  | 5 => .int
  | 6 => .int
  | 7 => .array .int
  | 8 => .array .int
  | 9 => .array .int
  | 10 => .array .int
  | 11 => .array .int
  | 12 => .int
  | 13 => .int
  | 14 => .int
  | 15 => .int
  | 16 => .array .int
  | 17 => .array .int
  | 18 => .array .int
  | 19 => .int
  | 20 => .int
  | 21 => .array .int
  | 22 => .array .int
  | 23 => .int
  | 24 => .int
  | 25 => .array .int
  | 26 => .array .int
  | 27 => .array .int
  | 28 => .int
  | 29 => .int
  | 30 => .int
  | 31 => .int
  | 32 => .int
  | 33 => .array .int
  | 34 => .array .int
  | 35 => .array .int
  | 36 => .array .int
  | 37 => .array .int
  | 38 => .int
  | 39 => .int
  | 40 => .int
  | 41 => .array .int
  | 42 => .int
  | 43 => .array .long
  | 44 => .array .int
  | 45 => .array .int
  | 46 => .array .int
  | 47 => .array .int
  | 48 => .int
  | 49 => .boolean
  | 50 => .int
  | 51 => .int
  | 52 => .int
  | 53 => .array .int
  | 54 => .int
  | 55 => .array .int
  | 56 => .array .int
  | 57 => .array .int
  | 58 => .array .long
  | 59 => .array .boolean
  | 60 => .array .int
  | _ => .array .int
theorem nmX10 : ∀ a, a < 62 → ∀ b, b < 62 → a ≠ b → (TX10 a).2.1 ≠ (TX10 b).2.1 := by decide +kernel
theorem tyX10_ok : ∀ k, k < 62 → parseFieldDescriptor (TX10 k).2.2.1 = some (tyX10 k) := by decide +kernel
abbrev cX10_thrown : ByteArray := prog_12_method_1_code
def yX10_thrown : MethodName := ⟨RX10, "thrown", "()I"⟩
abbrev cX10_refuse : ByteArray := prog_12_method_2_code
def yX10_refuse : MethodName := ⟨RX10, "refuse", "()I"⟩
abbrev cX10_in : ByteArray := prog_12_method_3_code
def yX10_in : MethodName := ⟨RX10, "in", "(JJJ)Z"⟩
abbrev cX10_has : ByteArray := prog_12_method_4_code
def yX10_has : MethodName := ⟨RX10, "has", "(II)Z"⟩
abbrev cX10_flag : ByteArray := prog_12_method_5_code
def yX10_flag : MethodName := ⟨RX10, "flag", "(Z)I"⟩
abbrev cX10_common : ByteArray := prog_12_method_6_code
def yX10_common : MethodName := ⟨RX10, "common", "(JJ)J"⟩
abbrev cX10_enters : ByteArray := prog_12_method_7_code
def yX10_enters : MethodName := ⟨RX10, "enters", "(J)V"⟩
abbrev cX10_entersFraction : ByteArray := prog_12_method_8_code
def yX10_entersFraction : MethodName := ⟨RX10, "entersFraction", "(JJ)V"⟩
abbrev cX10_isFloor : ByteArray := prog_12_method_9_code
def yX10_isFloor : MethodName := ⟨RX10, "isFloor", "(I)Z"⟩
abbrev cX10_isRider : ByteArray := prog_12_method_10_code
def yX10_isRider : MethodName := ⟨RX10, "isRider", "(I)Z"⟩
abbrev cX10_sign : ByteArray := prog_12_method_11_code
def yX10_sign : MethodName := ⟨RX10, "sign", "(I)I"⟩
abbrev cX10_end : ByteArray := prog_12_method_12_code
def yX10_end : MethodName := ⟨RX10, "end", "(I)Z"⟩
abbrev cX10_begins : ByteArray := prog_12_method_13_code
def yX10_begins : MethodName := ⟨RX10, "begins", "(I)I"⟩
abbrev cX10_takes : ByteArray := prog_12_method_14_code
def yX10_takes : MethodName := ⟨RX10, "takes", "(I)Z"⟩
abbrev cX10_isDigit : ByteArray := prog_12_method_15_code
def yX10_isDigit : MethodName := ⟨RX10, "isDigit", "()Z"⟩
abbrev cX10_among : ByteArray := prog_12_method_16_code
def yX10_among : MethodName := ⟨RX10, "among", "(Ljava/lang/String;)I"⟩
abbrev cX10_faultOf : ByteArray := prog_12_method_17_code
def yX10_faultOf : MethodName := ⟨RX10, "faultOf", "(IIZ)I"⟩
abbrev cX10_floors : ByteArray := prog_12_method_18_code
def yX10_floors : MethodName := ⟨RX10, "floors", "(I)Z"⟩
abbrev cX10_readsFloor : ByteArray := prog_12_method_19_code
def yX10_readsFloor : MethodName := ⟨RX10, "readsFloor", "()I"⟩
abbrev cX10_readsRider : ByteArray := prog_12_method_20_code
def yX10_readsRider : MethodName := ⟨RX10, "readsRider", "()Z"⟩
abbrev cX10_house : ByteArray := prog_12_method_21_code
def yX10_house : MethodName := ⟨RX10, "house", "()I"⟩
abbrev cX10_comes : ByteArray := prog_12_method_22_code
def yX10_comes : MethodName := ⟨RX10, "comes", "(IIII)V"⟩
abbrev cX10_codes : ByteArray := prog_12_method_23_code
def yX10_codes : MethodName := ⟨RX10, "codes", "(I)V"⟩
abbrev cX10_readsThing : ByteArray := prog_12_method_24_code
def yX10_readsThing : MethodName := ⟨RX10, "readsThing", "()Z"⟩
abbrev cX10_readsRank : ByteArray := prog_12_method_25_code
def yX10_readsRank : MethodName := ⟨RX10, "readsRank", "(I)Z"⟩
abbrev cX10_law : ByteArray := prog_12_method_26_code
def yX10_law : MethodName := ⟨RX10, "law", "()I"⟩
abbrev cX10_countsRides : ByteArray := prog_12_method_27_code
def yX10_countsRides : MethodName := ⟨RX10, "countsRides", "()Z"⟩
abbrev cX10_looks : ByteArray := prog_12_method_28_code
def yX10_looks : MethodName := ⟨RX10, "looks", "([II)V"⟩
abbrev cX10_thingOf : ByteArray := prog_12_method_29_code
def yX10_thingOf : MethodName := ⟨RX10, "thingOf", "(II)I"⟩
abbrev cX10_worked : ByteArray := prog_12_method_30_code
def yX10_worked : MethodName := ⟨RX10, "worked", "(III)I"⟩
abbrev cX10_lawFor : ByteArray := prog_12_method_31_code
def yX10_lawFor : MethodName := ⟨RX10, "lawFor", "(I)I"⟩
abbrev cX10_leastStop : ByteArray := prog_12_method_32_code
def yX10_leastStop : MethodName := ⟨RX10, "leastStop", "()I"⟩
abbrev cX10_stopOf : ByteArray := prog_12_method_33_code
def yX10_stopOf : MethodName := ⟨RX10, "stopOf", "([II)I"⟩
abbrev cX10_travels : ByteArray := prog_12_method_34_code
def yX10_travels : MethodName := ⟨RX10, "travels", "([II)I"⟩
abbrev cX10_there : ByteArray := prog_12_method_35_code
def yX10_there : MethodName := ⟨RX10, "there", "([I)I"⟩
abbrev cX10_homeBits : ByteArray := prog_12_method_36_code
def yX10_homeBits : MethodName := ⟨RX10, "homeBits", "([I)I"⟩
abbrev cX10_of : ByteArray := prog_12_method_37_code
def yX10_of : MethodName := ⟨RX10, "of", "(II)I"⟩
abbrev cX10_set : ByteArray := prog_12_method_38_code
def yX10_set : MethodName := ⟨RX10, "set", "(III)Z"⟩
abbrev cX10_sheet : ByteArray := prog_12_method_39_code
def yX10_sheet : MethodName := ⟨RX10, "sheet", "(IIII)I"⟩
abbrev cX10_dog : ByteArray := prog_12_method_40_code
def yX10_dog : MethodName := ⟨RX10, "dog", "(I)Z"⟩
abbrev cX10_draws : ByteArray := prog_12_method_41_code
def yX10_draws : MethodName := ⟨RX10, "draws", "(I)I"⟩
abbrev cX10_crowd : ByteArray := prog_12_method_42_code
def yX10_crowd : MethodName := ⟨RX10, "crowd", "(II)I"⟩
abbrev cX10_putsBy : ByteArray := prog_12_method_43_code
def yX10_putsBy : MethodName := ⟨RX10, "putsBy", "()V"⟩
abbrev cX10_adds : ByteArray := prog_12_method_44_code
def yX10_adds : MethodName := ⟨RX10, "adds", "()V"⟩
abbrev cX10_undo : ByteArray := prog_12_method_45_code
def yX10_undo : MethodName := ⟨RX10, "undo", "()I"⟩
abbrev cX10_canEnter : ByteArray := prog_12_method_46_code
def yX10_canEnter : MethodName := ⟨RX10, "canEnter", "(I)Z"⟩
abbrev cX10_canLeave : ByteArray := prog_12_method_47_code
def yX10_canLeave : MethodName := ⟨RX10, "canLeave", "(I)Z"⟩
abbrev cX10_enter : ByteArray := prog_12_method_48_code
def yX10_enter : MethodName := ⟨RX10, "enter", "(I)Z"⟩
abbrev cX10_leave : ByteArray := prog_12_method_49_code
def yX10_leave : MethodName := ⟨RX10, "leave", "(I)Z"⟩
abbrev cX10_ride : ByteArray := prog_12_method_50_code
def yX10_ride : MethodName := ⟨RX10, "ride", "()I"⟩
abbrev cX10_rides : ByteArray := prog_12_method_51_code
def yX10_rides : MethodName := ⟨RX10, "rides", "(I)I"⟩
abbrev cX10_readsAct : ByteArray := prog_12_method_52_code
def yX10_readsAct : MethodName := ⟨RX10, "readsAct", "()Z"⟩
abbrev cX10_does : ByteArray := prog_12_method_53_code
def yX10_does : MethodName := ⟨RX10, "does", "(I)Z"⟩
abbrev cX10_day : ByteArray := prog_12_method_54_code
def yX10_day : MethodName := ⟨RX10, "day", "()I"⟩
abbrev cX10_stop : ByteArray := prog_12_method_55_code
def yX10_stop : MethodName := ⟨RX10, "stop", "()I"⟩
abbrev cX10_goes : ByteArray := prog_12_method_56_code
def yX10_goes : MethodName := ⟨RX10, "goes", "(I)I"⟩
abbrev cX10_worthOf : ByteArray := prog_12_method_57_code
def yX10_worthOf : MethodName := ⟨RX10, "worthOf", "(I)I"⟩
abbrev cX10_can : ByteArray := prog_12_method_58_code
def yX10_can : MethodName := ⟨RX10, "can", "()I"⟩
abbrev cX10_fewestOf : ByteArray := prog_12_method_59_code
def yX10_fewestOf : MethodName := ⟨RX10, "fewestOf", "(II)I"⟩
abbrev cX10_along : ByteArray := prog_12_method_60_code
def yX10_along : MethodName := ⟨RX10, "along", "(I)I"⟩
abbrev cX10_without : ByteArray := prog_12_method_61_code
def yX10_without : MethodName := ⟨RX10, "without", "(I)I"⟩
abbrev cX10_bestWish : ByteArray := prog_12_method_62_code
def yX10_bestWish : MethodName := ⟨RX10, "bestWish", "([II)I"⟩
abbrev cX10_puts : ByteArray := prog_12_method_63_code
def yX10_puts : MethodName := ⟨RX10, "puts", "([I[I)V"⟩
abbrev cX10_advise : ByteArray := prog_12_method_64_code
def yX10_advise : MethodName := ⟨RX10, "advise", "(I)I"⟩
abbrev cX10_rests : ByteArray := prog_12_method_65_code
def yX10_rests : MethodName := ⟨RX10, "rests", "(I)I"⟩
abbrev cX10_then : ByteArray := prog_12_method_66_code
def yX10_then : MethodName := ⟨RX10, "then", "(I)I"⟩
abbrev cX10_since : ByteArray := prog_12_method_67_code
def yX10_since : MethodName := ⟨RX10, "since", "(I)I"⟩
abbrev cX10_comeHome : ByteArray := prog_12_method_68_code
def yX10_comeHome : MethodName := ⟨RX10, "comeHome", "(II)I"⟩
abbrev cX10_ballast : ByteArray := prog_12_method_69_code
def yX10_ballast : MethodName := ⟨RX10, "ballast", "(II)I"⟩
abbrev cX10_hinders : ByteArray := prog_12_method_70_code
def yX10_hinders : MethodName := ⟨RX10, "hinders", "(I)I"⟩
abbrev cX10_packed : ByteArray := prog_12_method_71_code
def yX10_packed : MethodName := ⟨RX10, "packed", "([I)J"⟩
abbrev cX10_unpacks : ByteArray := prog_12_method_72_code
def yX10_unpacks : MethodName := ⟨RX10, "unpacks", "(I)V"⟩
abbrev cX10_slotOf : ByteArray := prog_12_method_73_code
def yX10_slotOf : MethodName := ⟨RX10, "slotOf", "(J)I"⟩
abbrev cX10_finds : ByteArray := prog_12_method_74_code
def yX10_finds : MethodName := ⟨RX10, "finds", "(II)V"⟩
abbrev cX10_findsFirst : ByteArray := prog_12_method_75_code
def yX10_findsFirst : MethodName := ⟨RX10, "findsFirst", "()V"⟩
abbrev cX10_findsFrom : ByteArray := prog_12_method_76_code
def yX10_findsFrom : MethodName := ⟨RX10, "findsFrom", "(I)V"⟩
abbrev cX10_isAim : ByteArray := prog_12_method_77_code
def yX10_isAim : MethodName := ⟨RX10, "isAim", "(I)Z"⟩
abbrev cX10_seeks : ByteArray := prog_12_method_78_code
def yX10_seeks : MethodName := ⟨RX10, "seeks", "(I)I"⟩
abbrev cX10_tellsWay : ByteArray := prog_12_method_79_code
def yX10_tellsWay : MethodName := ⟨RX10, "tellsWay", "(I)I"⟩
abbrev cX10_all : ByteArray := prog_12_method_80_code
def yX10_all : MethodName := ⟨RX10, "all", "()I"⟩
abbrev cX10_one : ByteArray := prog_12_method_81_code
def yX10_one : MethodName := ⟨RX10, "one", "(I)I"⟩
abbrev cX10_gather : ByteArray := prog_12_method_82_code
def yX10_gather : MethodName := ⟨RX10, "gather", "(II)I"⟩
abbrev cX10_findsAll : ByteArray := prog_12_method_83_code
def yX10_findsAll : MethodName := ⟨RX10, "findsAll", "(I)I"⟩
abbrev cX10_states : ByteArray := prog_12_method_84_code
def yX10_states : MethodName := ⟨RX10, "states", "(I)I"⟩
abbrev cX10_stuck : ByteArray := prog_12_method_85_code
def yX10_stuck : MethodName := ⟨RX10, "stuck", "()I"⟩
abbrev cX10_saw : ByteArray := prog_12_method_86_code
def yX10_saw : MethodName := ⟨RX10, "saw", "(III)I"⟩
abbrev cX10_forget : ByteArray := prog_12_method_87_code
def yX10_forget : MethodName := ⟨RX10, "forget", "()I"⟩
abbrev cX10_isSo : ByteArray := prog_12_method_88_code
def yX10_isSo : MethodName := ⟨RX10, "isSo", "(I)Z"⟩
abbrev cX10_areSo : ByteArray := prog_12_method_89_code
def yX10_areSo : MethodName := ⟨RX10, "areSo", "()Z"⟩
abbrev cX10_believed : ByteArray := prog_12_method_90_code
def yX10_believed : MethodName := ⟨RX10, "believed", "()I"⟩
abbrev cX10_fits : ByteArray := prog_12_method_91_code
def yX10_fits : MethodName := ⟨RX10, "fits", "(I)I"⟩
abbrev cX10_tellsLies : ByteArray := prog_12_method_92_code
def yX10_tellsLies : MethodName := ⟨RX10, "tellsLies", "(II)Z"⟩
abbrev cX10_lies : ByteArray := prog_12_method_93_code
def yX10_lies : MethodName := ⟨RX10, "lies", "()I"⟩
abbrev cX10_isTruly : ByteArray := prog_12_method_94_code
def yX10_isTruly : MethodName := ⟨RX10, "isTruly", "(II)Z"⟩
abbrev cX10_truly : ByteArray := prog_12_method_95_code
def yX10_truly : MethodName := ⟨RX10, "truly", "(I)I"⟩
abbrev cX10_bets : ByteArray := prog_12_method_96_code
def yX10_bets : MethodName := ⟨RX10, "bets", "(IJ)V"⟩
abbrev cX10_betsAll : ByteArray := prog_12_method_97_code
def yX10_betsAll : MethodName := ⟨RX10, "betsAll", "()V"⟩
abbrev cX10_odds : ByteArray := prog_12_method_98_code
def yX10_odds : MethodName := ⟨RX10, "odds", "(I)I"⟩
abbrev cX10_likely : ByteArray := prog_12_method_99_code
def yX10_likely : MethodName := ⟨RX10, "likely", "()I"⟩
abbrev cX10_rideAlone : ByteArray := prog_12_method_100_code
def yX10_rideAlone : MethodName := ⟨RX10, "rideAlone", "(II)I"⟩
abbrev cX10_split : ByteArray := prog_12_method_101_code
def yX10_split : MethodName := ⟨RX10, "split", "()I"⟩
abbrev cX10_keep : ByteArray := prog_12_method_102_code
def yX10_keep : MethodName := ⟨RX10, "keep", "(I)Z"⟩
abbrev cX10_again : ByteArray := prog_12_method_103_code
def yX10_again : MethodName := ⟨RX10, "again", "(I)Z"⟩
abbrev cX10_count : ByteArray := prog_12_method_104_code
def yX10_count : MethodName := ⟨RX10, "count", "(I)I"⟩
abbrev cX10_init : ByteArray := prog_12_method_105_code
def yX10_init : MethodName := ⟨RX10, "<init>", "()V"⟩
abbrev cX10_row : ByteArray := prog_12_method_106_code
def yX10_row : MethodName := ⟨RX10, "row", "(I)J"⟩
def RJ6 : String := "java/lang/Integer"
def TJ6 : u_T := fun k => match k with
  | _ => ("", "", "", false)
def tyJ6 : Nat → FieldType := fun k => match k with
  | _ => .int
theorem nmJ6 : ∀ a, a < 0 → ∀ b, b < 0 → a ≠ b → (TJ6 a).2.1 ≠ (TJ6 b).2.1 := by decide +kernel
theorem tyJ6_ok : ∀ k, k < 0 → parseFieldDescriptor (TJ6 k).2.2.1 = some (tyJ6 k) := by decide +kernel
abbrev cJ6_numberOfTrailingZeros_0f7a4 : ByteArray := prog_17_method_48_code
def yJ6_numberOfTrailingZeros_0f7a4 : MethodName := ⟨RJ6, "numberOfTrailingZeros", "(I)I"⟩
abbrev cJ6_bitCount_0f7a4 : ByteArray := prog_17_method_49_code
def yJ6_bitCount_0f7a4 : MethodName := ⟨RJ6, "bitCount", "(I)I"⟩
def RJ9 : String := "java/lang/Math"
def TJ9 : u_T := fun k => match k with
  | _ => ("", "", "", false)
def tyJ9 : Nat → FieldType := fun k => match k with
  | _ => .int
theorem nmJ9 : ∀ a, a < 0 → ∀ b, b < 0 → a ≠ b → (TJ9 a).2.1 ≠ (TJ9 b).2.1 := by decide +kernel
theorem tyJ9_ok : ∀ k, k < 0 → parseFieldDescriptor (TJ9 k).2.2.1 = some (tyJ9 k) := by decide +kernel
abbrev cJ9_abs_0f7a4 : ByteArray := prog_18_method_59_code
def yJ9_abs_0f7a4 : MethodName := ⟨RJ9, "abs", "(I)I"⟩
abbrev cJ9_max_7cf53 : ByteArray := prog_18_method_65_code
def yJ9_max_7cf53 : MethodName := ⟨RJ9, "max", "(II)I"⟩
abbrev cJ9_min_7cf53 : ByteArray := prog_18_method_69_code
def yJ9_min_7cf53 : MethodName := ⟨RJ9, "min", "(II)I"⟩
def RJ0 : String := "java/lang/String"
def TJ0 : u_T := fun k => match k with
  | _ => ("", "", "", false)
def tyJ0 : Nat → FieldType := fun k => match k with
  | _ => .int
theorem nmJ0 : ∀ a, a < 0 → ∀ b, b < 0 → a ≠ b → (TJ0 a).2.1 ≠ (TJ0 b).2.1 := by decide +kernel
theorem tyJ0_ok : ∀ k, k < 0 → parseFieldDescriptor (TJ0 k).2.2.1 = some (tyJ0 k) := by decide +kernel
abbrev cJ0_length_8abf5 : ByteArray := prog_20_method_54_code
def yJ0_length_8abf5 : MethodName := ⟨RJ0, "length", "()I"⟩
abbrev cJ0_charAt_5068e : ByteArray := prog_20_method_56_code
def yJ0_charAt_5068e : MethodName := ⟨RJ0, "charAt", "(I)C"⟩
abbrev cJ0_coder_7d493 : ByteArray := prog_20_method_152_code
def yJ0_coder_7d493 : MethodName := ⟨RJ0, "coder", "()B"⟩
abbrev cJ0_isLatin1_aae02 : ByteArray := prog_20_method_154_code
def yJ0_isLatin1_aae02 : MethodName := ⟨RJ0, "isLatin1", "()Z"⟩
abbrev cJ0_checkIndex_df160 : ByteArray := prog_20_method_155_code
def yJ0_checkIndex_df160 : MethodName := ⟨RJ0, "checkIndex", "(II)V"⟩
def RJ1 : String := "java/lang/StringLatin1"
def TJ1 : u_T := fun k => match k with
  | _ => ("", "", "", false)
def tyJ1 : Nat → FieldType := fun k => match k with
  | _ => .int
theorem nmJ1 : ∀ a, a < 0 → ∀ b, b < 0 → a ≠ b → (TJ1 a).2.1 ≠ (TJ1 b).2.1 := by decide +kernel
theorem tyJ1_ok : ∀ k, k < 0 → parseFieldDescriptor (TJ1 k).2.2.1 = some (tyJ1 k) := by decide +kernel
abbrev cJ1_charAt_3b067 : ByteArray := prog_21_method_2_code
def yJ1_charAt_3b067 : MethodName := ⟨RJ1, "charAt", "([BI)C"⟩
def RJ7 : String := "java/util/Arrays"
def TJ7 : u_T := fun k => match k with
  | _ => ("", "", "", false)
def tyJ7 : Nat → FieldType := fun k => match k with
  | _ => .int
theorem nmJ7 : ∀ a, a < 0 → ∀ b, b < 0 → a ≠ b → (TJ7 a).2.1 ≠ (TJ7 b).2.1 := by decide +kernel
theorem tyJ7_ok : ∀ k, k < 0 → parseFieldDescriptor (TJ7 k).2.2.1 = some (tyJ7 k) := by decide +kernel
abbrev cJ7_fill_d0a16 : ByteArray := prog_27_method_101_code
def yJ7_fill_d0a16 : MethodName := ⟨RJ7, "fill", "([JJ)V"⟩
abbrev cJ7_fill_53178 : ByteArray := prog_27_method_103_code
def yJ7_fill_53178 : MethodName := ⟨RJ7, "fill", "([II)V"⟩
def RJ3 : String := "jdk/internal/util/Preconditions"
def TJ3 : u_T := fun k => match k with
  | _ => ("", "", "", false)
def tyJ3 : Nat → FieldType := fun k => match k with
  | _ => .int
theorem nmJ3 : ∀ a, a < 0 → ∀ b, b < 0 → a ≠ b → (TJ3 a).2.1 ≠ (TJ3 b).2.1 := by decide +kernel
theorem tyJ3_ok : ∀ k, k < 0 → parseFieldDescriptor (TJ3 k).2.2.1 = some (tyJ3 k) := by decide +kernel
abbrev cJ3_checkIndex_8e157 : ByteArray := prog_29_method_11_code
def yJ3_checkIndex_8e157 : MethodName := ⟨RJ3, "checkIndex", "(IILjava/util/function/BiFunction;)I"⟩
def RL : String := "LeastWishedLaw"
abbrev cL_of : ByteArray := method_3_code
def yL_of : MethodName := ⟨RL, "of", "(LLeastWished;II[J)I"⟩
abbrev cL_worthOf : ByteArray := method_4_code
def yL_worthOf : MethodName := ⟨RL, "worthOf", "(LLeastWished;I[J)I"⟩
abbrev cL_ballast : ByteArray := method_5_code
def yL_ballast : MethodName := ⟨RL, "ballast", "(LLeastWished;II[J)I"⟩
abbrev cL_row : ByteArray := method_6_code
def yL_row : MethodName := ⟨RL, "row", "(LLeastWished;I[J)I"⟩
abbrev cL_law : ByteArray := code
def yL_law : MethodName := ⟨RL, "law", "([I)Z"⟩
abbrev vwCl : List vw_C := [(RX0, TX0, 5), (RX1, TX1, 7), (RX2, TX2, 6), (RX3, TX3, 6), (RX4, TX4, 3), (RX5, TX5, 5), (RX6, TX6, 12), (RX7, TX7, 5), (RX8, TX8, 2), (RX9, TX9, 12), (RX10, TX10, 62)]
theorem inT0 : ∀ w ∈ u_ws RX0 TX0 5, w ∈ sw_T := sw_in _ [633, 635, 637, 639, 641] (by decide +kernel) (by decide +kernel)
theorem inT1 : ∀ w ∈ u_ws RX1 TX1 7, w ∈ sw_T := sw_in _ [216, 218, 220, 222, 224, 226, 228] (by decide +kernel) (by decide +kernel)
theorem inT2 : ∀ w ∈ u_ws RX2 TX2 6, w ∈ sw_T := sw_in _ [155, 157, 159, 161, 163, 165] (by decide +kernel) (by decide +kernel)
theorem inT3 : ∀ w ∈ u_ws RX3 TX3 6, w ∈ sw_T := sw_in _ [265, 267, 269, 271, 273, 275] (by decide +kernel) (by decide +kernel)
theorem inT4 : ∀ w ∈ u_ws RX4 TX4 3, w ∈ sw_T := sw_in _ [291, 293, 295] (by decide +kernel) (by decide +kernel)
theorem inT5 : ∀ w ∈ u_ws RX5 TX5 5, w ∈ sw_T := sw_in _ [189, 191, 193, 195, 197] (by decide +kernel) (by decide +kernel)
theorem inT6 : ∀ w ∈ u_ws RX6 TX6 12, w ∈ sw_T := sw_in _ [797, 799, 801, 803, 805, 807, 809, 811, 813, 815, 817, 819] (by decide +kernel) (by decide +kernel)
theorem inT7 : ∀ w ∈ u_ws RX7 TX7 5, w ∈ sw_T := sw_in _ [312, 314, 316, 318, 320] (by decide +kernel) (by decide +kernel)
theorem inT8 : ∀ w ∈ u_ws RX8 TX8 2, w ∈ sw_T := sw_in _ [130, 132] (by decide +kernel) (by decide +kernel)
theorem inT9 : ∀ w ∈ u_ws RX9 TX9 12, w ∈ sw_T := sw_in _ [336, 338, 340, 342, 344, 346, 348, 350, 352, 354, 356, 358] (by decide +kernel) (by decide +kernel)
theorem inT10 : ∀ w ∈ u_ws RX10 TX10 62, w ∈ sw_T := sw_in _ [1660, 1662, 1664, 1666, 1668, 1670, 1672, 1674, 1676, 1678, 1680, 1682, 1684, 1686, 1688, 1690, 1692, 1694, 1696, 1698, 1700, 1702, 1704, 1706, 1708, 1710, 1712, 1714, 1716, 1718, 1720, 1722, 1724, 1726, 1728, 1730, 1732, 1734, 1736, 1738, 1740, 1742, 1744, 1746, 1748, 1750, 1752, 1754, 1756, 1758, 1760, 1762, 1764, 1766, 1768, 1770, 1772, 1774, 1776, 1778, 1780, 1782] (by decide +kernel) (by decide +kernel)
end
section
def sw_tab : List (List Bool) := [[true, true, false, false, false], [false, false, false, true, true, true, true], [true, true, true, false, false, false], [true, true, true, false, false, false], [true, false, false], [true, true, false, false, false], [true, true, true, true, true, true, true, false, false, false, false, false], [true, true, true, true, false], [true, false], [true, true, true, true, true, true, true, true, true, true, false, true], [false, false, true, false, false, false, false, true, true, true, true, true, false, false, false, false, true, true, true, false, false, true, true, false, false, true, true, true, false, false, false, false, false, true, true, true, true, true, false, false, false, true, false, true, true, true, true, true, false, false, false, false, false, true, false, true, true, true, true, true, true, true]]
def sw_isR (ci k : Nat) : Bool := (sw_tab.getD ci []).getD k false
def sw_nf (ci : Nat) : Nat := (sw_tab.getD ci []).length
end
section
/-! the world: cells 0, 1, .. (at the addresses sz, sz + 1, ..); kinds below 50: objects of a class of vwCl; 50 ints, 51 longs, 52 booleans, 53 references -/
abbrev sw_G : Type := Nat × List Nat × (Nat → Nat) × (Nat → Nat) × (Nat → Nat → Option Nat)
abbrev sw_I : Type := Nat → Nat → Int32
abbrev sw_J : Type := Nat → Nat → Int64
def sw_up {α : Type} (I : Nat → Nat → α) (a k : Nat) (v : α) : Nat → Nat → α := fun x y => if x = a ∧ y = k then v else I x y
def sw_if (c A B : Prop) : Prop := (c → A) ∧ (¬ c → B)
def sw_o (sz : Nat) (r : Option Nat) : Option Nat := r.map (fun k => sz + k)
def sw_fs (sz : Nat) (ci N a : Nat) (R : Nat → Nat → Option Nat) (I : sw_I) : List Value := (List.range N).map (fun j => if sw_isR ci j then va_rf (sw_o sz (R a j)) else .int (I a j))
def sw_E (cy : Nat → ClassId) (sz : Nat) (G : sw_G) (I : sw_I) (J : sw_J) (a : Nat) : va_E :=
  if G.2.2.1 a < 50 then .inr (G.2.2.1 a, sw_fs sz (G.2.2.1 a) (sw_nf (G.2.2.1 a)) a G.2.2.2.2 I)
  else if G.2.2.1 a = 51 then .inl (cy 1, G.2.2.2.1 a, .inr (.inl (J a)))
  else if G.2.2.1 a = 53 then .inl (cy 3, G.2.2.2.1 a, .inr (.inr (.inr (.inr (fun j => sw_o sz (G.2.2.2.2 a j))))))
  else if G.2.2.1 a = 52 then .inl (cy 2, G.2.2.2.1 a, .inl (I a))
  else .inl (cy 0, G.2.2.2.1 a, .inl (I a))
def sw_ws (cy : Nat → ClassId) (sz : Nat) (G : sw_G) (I : sw_I) (J : sw_J) : va_W := G.2.1.map (fun k => (sz + k, sw_E cy sz G I J k))
abbrev sw_tys (cy : Nat → ClassId) : List (ClassId × FieldType) := [(cy 0, .int), (cy 1, .long), (cy 2, .boolean), (cy 3, .object "LeastWished$Moment")]
def sw_Rel (D : va_G) (cy : Nat → ClassId) (sz : Nat) (G : sw_G) (I : sw_I) (J : sw_J) (H : Heap) : Prop := H.size = sz + G.1 ∧ va_P D vwCl (sw_ws cy sz G I J) H ∧ va_D (fun q => sz ≤ q) (sw_ws cy sz G I J)
def sw_Q (D : va_G) (cy : Nat → ClassId) (sz : Nat) (Q : Option Value → sw_G → sw_I → sw_J → Prop) : Array Value → State → Outcome → State → Prop := fun _ st oc t =>
  (∃ (r : Option Value) (G : sw_G) (I : sw_I) (J : sw_J), oc = .returned r ∧ Q r G I J ∧ sw_Rel D cy sz G I J t.heap ∧ va_K D vwCl (sw_tys cy) t) ∧ va_F (fun q => sz ≤ q) st t
def sw_Pc (D : va_G) (cy : Nat → ClassId) (sz : Nat) (av : List Value) (G : sw_G) (I : sw_I) (J : sw_J) : Array Value → State → Prop := va_Pc av (fun U => sz ≤ U.heap.size ∧ sw_Rel D cy sz G I J U.heap ∧ va_K D vwCl (sw_tys cy) U)
def sw_C (D : va_G) (cy : Nat → ClassId) (sz : Nat) (own : String) (cc : ByteArray) (nL : Nat) (ret : Option FieldType) (ini : Bool) (p : Program) (s : State) (m : MethodId) (args : Array Value) (meth : Method) (c : Code) : Prop :=
  p.tables.exec = Jvm.exec ∧ c.code = cc ∧ c.maxLocals = nL ∧ meth.sig.returnType = ret ∧ meth.locks = false ∧ (ini = true → meth.name = "<init>") ∧ s.vm.findClass own = some m.cls ∧ (∀ w ∈ sw_T, w.before args s = true) ∧ va_K D vwCl (sw_tys cy) s ∧ sz ≤ s.heap.size
/-- the machine in a method, over the world: from here it comes to an end with Q -/
def AW (l : Launch) (D : va_G) (cy : Nat → ClassId) (sz : Nat) (own : String) (cc : ByteArray) (nL : Nat) (ret : Option FieldType) (ini : Bool) (R : Room) (mc ms : Nat) (Q : Option Value → sw_G → sw_I → sw_J → Prop) (cells slots : Nat) (G : sw_G) (I : sw_I) (J : sw_J) (pc : Nat) (lv : List (Nat × Value)) (st : List Value) : Prop :=
  ∀ (p : Program) (e : Env) (s : State) (m : MethodId) (args : Array Value) (below : List Frame) (meth : Method) (c : Code) (H : Heap) (locs : List Loc) (ls : Array Slot),
    sw_C D cy sz own cc nL ret ini p s m args meth c → sw_Rel D cy sz G I J H → va_S (fun q => sz ≤ q) s.heap H locs → lv_has ls nL lv →
    W p l e R s m args below meth c H locs cells slots (MQ below (sw_Q D cy sz Q) args s mc ms (fun q => sz ≤ q)) (F0 m pc ls st)
theorem sw_up_same {α : Type} (I : Nat → Nat → α) (a k : Nat) (v : α) : sw_up I a k v a k = v := by simp [sw_up]
theorem sw_up_cell {α : Type} (I : Nat → Nat → α) {a b : Nat} (k j : Nat) (v : α) (h : b ≠ a) : sw_up I a k v b j = I b j := by simp [sw_up, h]
theorem sw_up_slot {α : Type} (I : Nat → Nat → α) (a b : Nat) {k j : Nat} (v : α) (h : j ≠ k) : sw_up I a k v b j = I b j := by simp [sw_up, h]
theorem sw_up_row {α : Type} (I : Nat → Nat → α) {a b : Nat} (k : Nat) (v : α) (h : b ≠ a) : sw_up I a k v b = I b := by funext j; exact sw_up_cell I k j v h
theorem sw_if_t {c A B : Prop} (h : c) : sw_if c A B = A := propext ⟨fun x => x.1 h, fun x => ⟨fun _ => x, fun n => absurd h n⟩⟩
theorem sw_if_f {c A B : Prop} (h : ¬ c) : sw_if c A B = B := propext ⟨fun x => x.2 h, fun x => ⟨fun y => absurd y h, fun _ => x⟩⟩
section SWL
variable {D : va_G} {cy : Nat → ClassId} {sz : Nat} {G : sw_G} {I : sw_I} {J : sw_J} {H : Heap}
theorem sw_at {a : Nat} (h : a ∈ G.2.1) : ∃ q0 : Nat, (sw_ws cy sz G I J)[q0]? = some (sz + a, sw_E cy sz G I J a) := by
  apply List.getElem?_of_mem
  exact List.mem_map.mpr ⟨a, h, rfl⟩
/-- a change of one cell -/
theorem sw_set {G' : sw_G} {I' : sw_I} {J' : sw_J} {a q0 : Nat} {e : va_E} (hL : G'.2.1 = G.2.1) (hD : va_D (fun q => sz ≤ q) (sw_ws cy sz G I J)) (hq : (sw_ws cy sz G I J)[q0]? = some (sz + a, sw_E cy sz G I J a)) (ha : sw_E cy sz G' I' J' a = e) (ho : ∀ b, b ≠ a → sw_E cy sz G' I' J' b = sw_E cy sz G I J b) :
    (sw_ws cy sz G I J).set q0 (sz + a, e) = sw_ws cy sz G' I' J' := by
  have hl := (List.getElem?_eq_some_iff.mp hq).1
  apply List.ext_getElem?
  intro i
  have hb : ∀ i : Nat, (sw_ws cy sz G' I' J')[i]? = (G.2.1[i]?).map (fun k => (sz + k, sw_E cy sz G' I' J' k)) := fun i => by rw [← hL]; exact List.getElem?_map
  have hc : ∀ i : Nat, (sw_ws cy sz G I J)[i]? = (G.2.1[i]?).map (fun k => (sz + k, sw_E cy sz G I J k)) := fun i => List.getElem?_map
  by_cases hi : i = q0
  · subst hi
    rw [List.getElem?_set_self hl, hb]
    rw [hc] at hq
    cases hk : G.2.1[i]? with
    | none => rw [hk] at hq; cases hq
    | some k =>
      rw [hk] at hq
      have h1 : sz + k = sz + a := congrArg Prod.fst (Option.some.inj hq)
      have h2 : k = a := by omega
      subst h2
      rw [← ha]; rfl
  · rw [List.getElem?_set_ne (Ne.symm hi), hb, hc]
    cases hk : G.2.1[i]? with
    | none => rfl
    | some k =>
      have hne : k ≠ a := by
        intro h
        subst h
        have h1 := hD.1 i q0 _ _ (by rw [hc, hk]; rfl) hq rfl
        exact hi h1
      show some (sz + k, sw_E cy sz G I J k) = some (sz + k, sw_E cy sz G' I' J' k)
      rw [ho k hne]
theorem sw_fs_get {ci N a k : Nat} {R : Nat → Nat → Option Nat} (hk : k < N) : (sw_fs sz ci N a R I)[k]? = some (if sw_isR ci k then va_rf (sw_o sz (R a k)) else .int (I a k)) := by
  simp [sw_fs, List.getElem?_map, hk]
theorem sw_fs_len {ci N a : Nat} {R : Nat → Nat → Option Nat} : (sw_fs sz ci N a R I).length = N := by simp [sw_fs]
theorem sw_fs_setI {ci N a k : Nat} {R : Nat → Nat → Option Nat} {v : Int32} (hr : sw_isR ci k = false) : sw_fs sz ci N a R (sw_up I a k v) = (sw_fs sz ci N a R I).set k (.int v) := by
  apply List.ext_getElem?
  intro i
  by_cases hi : i < N
  · rw [sw_fs_get hi]
    by_cases h : i = k
    · subst h
      rw [List.getElem?_set_self (by rw [sw_fs_len]; exact hi), hr]
      simp [sw_up_same]
    · rw [List.getElem?_set_ne (Ne.symm h), sw_fs_get hi, sw_up_slot I a a v h]
  · rw [List.getElem?_eq_none (by rw [sw_fs_len]; omega), List.getElem?_eq_none (by rw [List.length_set, sw_fs_len]; omega)]
theorem sw_fs_setR {ci N a k : Nat} {R : Nat → Nat → Option Nat} {v : Option Nat} (hr : sw_isR ci k = true) : sw_fs sz ci N a (sw_up R a k v) I = (sw_fs sz ci N a R I).set k (va_rf (sw_o sz v)) := by
  apply List.ext_getElem?
  intro i
  by_cases hi : i < N
  · rw [sw_fs_get hi]
    by_cases h : i = k
    · subst h
      rw [List.getElem?_set_self (by rw [sw_fs_len]; exact hi), hr]
      simp [sw_up_same]
    · rw [List.getElem?_set_ne (Ne.symm h), sw_fs_get hi, sw_up_slot R a a v h]
  · rw [List.getElem?_eq_none (by rw [sw_fs_len]; omega), List.getElem?_eq_none (by rw [List.length_set, sw_fs_len]; omega)]
theorem sw_fs_cong {ci N b : Nat} {R R' : Nat → Nat → Option Nat} {I' : sw_I} (h1 : R' b = R b) (h2 : I' b = I b) : sw_fs sz ci N b R' I' = sw_fs sz ci N b R I := by
  unfold sw_fs; rw [h1, h2]
theorem sw_E_cong {G' : sw_G} {I' : sw_I} {J' : sw_J} {b : Nat} (hk : G'.2.2.1 b = G.2.2.1 b) (hn : G'.2.2.2.1 b = G.2.2.2.1 b) (hr : G'.2.2.2.2 b = G.2.2.2.2 b) (hi : I' b = I b) (hj : J' b = J b) : sw_E cy sz G' I' J' b = sw_E cy sz G I J b := by
  unfold sw_E; rw [hk, hn, hr, hi, hj, sw_fs_cong hr hi]
theorem sw_E_obj {a ci : Nat} (hk : G.2.2.1 a = ci) (hc : ci < 50) : sw_E cy sz G I J a = .inr (ci, sw_fs sz ci (sw_nf ci) a G.2.2.2.2 I) := by
  subst hk; unfold sw_E; rw [if_pos hc]
theorem sw_E_ints {a : Nat} (hk : G.2.2.1 a = 50) : sw_E cy sz G I J a = .inl (cy 0, G.2.2.2.1 a, .inl (I a)) := by
  unfold sw_E; rw [hk]; simp
theorem sw_E_longs {a : Nat} (hk : G.2.2.1 a = 51) : sw_E cy sz G I J a = .inl (cy 1, G.2.2.2.1 a, .inr (.inl (J a))) := by
  unfold sw_E; rw [hk]; simp
theorem sw_E_bools {a : Nat} (hk : G.2.2.1 a = 52) : sw_E cy sz G I J a = .inl (cy 2, G.2.2.2.1 a, .inl (I a)) := by
  unfold sw_E; rw [hk]; simp
theorem sw_E_refs {a : Nat} (hk : G.2.2.1 a = 53) : sw_E cy sz G I J a = .inl (cy 3, G.2.2.2.1 a, .inr (.inr (.inr (.inr (fun j => sw_o sz (G.2.2.2.2 a j)))))) := by
  unfold sw_E; rw [hk]; simp
end SWL
section SWM
variable {l : Launch} {D : va_G} {cy : Nat → ClassId} {sz : Nat} {own : String} {cc : ByteArray} {nL : Nat} {ret : Option FieldType} {ini : Bool} {R : Room} {mc ms cells slots : Nat} {Q : Option Value → sw_G → sw_I → sw_J → Prop} {G : sw_G} {I : sw_I} {J : sw_J} {pc : Nat} {lv lv' : List (Nat × Value)} {st : List Value}
theorem aw_iconst {n : Int} {v : Int32} (d : decode cc pc = .ok (.iconst n, 1)) (hv : Int32.ofInt n = v) (k : AW l D cy sz own cc nL ret ini R mc ms Q cells slots G I J  (pc + 1) lv (.int v :: st)) : AW l D cy sz own cc nL ret ini R mc ms Q cells slots G I J  pc lv (st) := fun p e s m args below meth c H locs ls X hR hS hl => lv_iconst X.1 X.2.1 d hv (k p e s m args below meth c H locs ls X hR hS hl)
theorem aw_bipush {n : Int} {v : Int32} (d : decode cc pc = .ok (.bipush n, 2)) (hv : (Int8.ofInt n).toInt32 = v) (k : AW l D cy sz own cc nL ret ini R mc ms Q cells slots G I J  (pc + 2) lv (.int v :: st)) : AW l D cy sz own cc nL ret ini R mc ms Q cells slots G I J  pc lv (st) := fun p e s m args below meth c H locs ls X hR hS hl => lv_bipush X.1 X.2.1 d hv (k p e s m args below meth c H locs ls X hR hS hl)
theorem aw_sipush {n : Int} {v : Int32} (d : decode cc pc = .ok (.sipush n, 3)) (hv : (Int16.ofInt n).toInt32 = v) (k : AW l D cy sz own cc nL ret ini R mc ms Q cells slots G I J  (pc + 3) lv (.int v :: st)) : AW l D cy sz own cc nL ret ini R mc ms Q cells slots G I J  pc lv (st) := fun p e s m args below meth c H locs ls X hR hS hl => lv_sipush X.1 X.2.1 d hv (k p e s m args below meth c H locs ls X hR hS hl)
theorem aw_lconst {n : Fin 2} {v : Int64} (d : decode cc pc = .ok (.lconst n, 1)) (hv : Int64.ofNat (n : Nat) = v) (k : AW l D cy sz own cc nL ret ini R mc ms Q cells slots G I J  (pc + 1) lv (.long v :: st)) : AW l D cy sz own cc nL ret ini R mc ms Q cells slots G I J  pc lv (st) := fun p e s m args below meth c H locs ls X hR hS hl => lv_lconst X.1 X.2.1 d hv (k p e s m args below meth c H locs ls X hR hS hl)
theorem aw_ldc {index : Nat} {v : Int32} (d : decode cc pc = .ok (.ldc index, 2)) (hw : Cond.constant own index v ∈ sw_T) (k : AW l D cy sz own cc nL ret ini R mc ms Q cells slots G I J  (pc + 2) lv (.int v :: st)) : AW l D cy sz own cc nL ret ini R mc ms Q cells slots G I J  pc lv (st) := fun p e s m args below meth c H locs ls X hR hS hl => lv_ldc X.1 X.2.1 X.2.2.2.2.2.2.1 (X.2.2.2.2.2.2.2.1 _ hw) d (k p e s m args below meth c H locs ls X hR hS hl)
theorem aw_ldcw {index : Nat} {v : Int32} (d : decode cc pc = .ok (.ldc_w index, 3)) (hw : Cond.constant own index v ∈ sw_T) (k : AW l D cy sz own cc nL ret ini R mc ms Q cells slots G I J  (pc + 3) lv (.int v :: st)) : AW l D cy sz own cc nL ret ini R mc ms Q cells slots G I J  pc lv (st) := fun p e s m args below meth c H locs ls X hR hS hl => lv_ldcw X.1 X.2.1 X.2.2.2.2.2.2.1 (X.2.2.2.2.2.2.2.1 _ hw) d (k p e s m args below meth c H locs ls X hR hS hl)
theorem aw_ldc2 {index : Nat} {v : Int64} (d : decode cc pc = .ok (.ldc2_w index, 3)) (hw : Cond.constantLong own index v ∈ sw_T) (k : AW l D cy sz own cc nL ret ini R mc ms Q cells slots G I J  (pc + 3) lv (.long v :: st)) : AW l D cy sz own cc nL ret ini R mc ms Q cells slots G I J  pc lv (st) := fun p e s m args below meth c H locs ls X hR hS hl => lv_ldc2 X.1 X.2.1 X.2.2.2.2.2.2.1 (X.2.2.2.2.2.2.2.1 _ hw) d (k p e s m args below meth c H locs ls X hR hS hl)
theorem aw_iload_n (place : Nat) {n : Fin 4} {i : Nat} {x : Int32} (d : decode cc pc = .ok (.iload_n n, 1)) (hi : (n : Nat) = i) (hp : lv[place]? = some (i, .int x)) (k : AW l D cy sz own cc nL ret ini R mc ms Q cells slots G I J  (pc + 1) lv (.int x :: st)) : AW l D cy sz own cc nL ret ini R mc ms Q cells slots G I J  pc lv (st) := fun p e s m args below meth c H locs ls X hR hS hl => lv_iload_n X.1 X.2.1 d hi (lv_at hl place hp) (k p e s m args below meth c H locs ls X hR hS hl)
theorem aw_iload (place : Nat) {i : Nat} {x : Int32} (d : decode cc pc = .ok (.iload i, 2)) (hp : lv[place]? = some (i, .int x)) (k : AW l D cy sz own cc nL ret ini R mc ms Q cells slots G I J  (pc + 2) lv (.int x :: st)) : AW l D cy sz own cc nL ret ini R mc ms Q cells slots G I J  pc lv (st) := fun p e s m args below meth c H locs ls X hR hS hl => lv_iload X.1 X.2.1 d (lv_at hl place hp) (k p e s m args below meth c H locs ls X hR hS hl)
theorem aw_istore_n {n : Fin 4} {i : Nat} {x : Int32} (d : decode cc pc = .ok (.istore_n n, 1)) (hi : (n : Nat) = i) (hn : i < nL) (hv : (i, Value.int x) :: lv.filter (fun q => !(q.1 == i) && !(q.1 + 1 == i && q.2.category == 2)) = lv') (k : AW l D cy sz own cc nL ret ini R mc ms Q cells slots G I J  (pc + 1) lv' (st)) : AW l D cy sz own cc nL ret ini R mc ms Q cells slots G I J  pc lv (.int x :: st) := fun p e s m args below meth c H locs ls X hR hS hl => lv_istore_n X.1 X.2.1 d hi hl hn hv (fun ls2 hl2 => k p e s m args below meth c H locs ls2 X hR hS hl2)
theorem aw_istore {i : Nat} {x : Int32} (d : decode cc pc = .ok (.istore i, 2)) (hn : i < nL) (hv : (i, Value.int x) :: lv.filter (fun q => !(q.1 == i) && !(q.1 + 1 == i && q.2.category == 2)) = lv') (k : AW l D cy sz own cc nL ret ini R mc ms Q cells slots G I J  (pc + 2) lv' (st)) : AW l D cy sz own cc nL ret ini R mc ms Q cells slots G I J  pc lv (.int x :: st) := fun p e s m args below meth c H locs ls X hR hS hl => lv_istore X.1 X.2.1 d hl hn hv (fun ls2 hl2 => k p e s m args below meth c H locs ls2 X hR hS hl2)
theorem aw_lload_n (place : Nat) {n : Fin 4} {i : Nat} {x : Int64} (d : decode cc pc = .ok (.lload_n n, 1)) (hi : (n : Nat) = i) (hp : lv[place]? = some (i, .long x)) (k : AW l D cy sz own cc nL ret ini R mc ms Q cells slots G I J  (pc + 1) lv (.long x :: st)) : AW l D cy sz own cc nL ret ini R mc ms Q cells slots G I J  pc lv (st) := fun p e s m args below meth c H locs ls X hR hS hl => lv_lload_n X.1 X.2.1 d hi (lv_at hl place hp) (k p e s m args below meth c H locs ls X hR hS hl)
theorem aw_lload (place : Nat) {i : Nat} {x : Int64} (d : decode cc pc = .ok (.lload i, 2)) (hp : lv[place]? = some (i, .long x)) (k : AW l D cy sz own cc nL ret ini R mc ms Q cells slots G I J  (pc + 2) lv (.long x :: st)) : AW l D cy sz own cc nL ret ini R mc ms Q cells slots G I J  pc lv (st) := fun p e s m args below meth c H locs ls X hR hS hl => lv_lload X.1 X.2.1 d (lv_at hl place hp) (k p e s m args below meth c H locs ls X hR hS hl)
theorem aw_lstore_n {n : Fin 4} {i : Nat} {x : Int64} (d : decode cc pc = .ok (.lstore_n n, 1)) (hi : (n : Nat) = i) (hn : i + 1 < nL) (hv : (i, Value.long x) :: lv.filter (fun q => !(q.1 == i) && (!(q.1 == i + 1) && !(q.1 + 1 == i && q.2.category == 2))) = lv') (k : AW l D cy sz own cc nL ret ini R mc ms Q cells slots G I J  (pc + 1) lv' (st)) : AW l D cy sz own cc nL ret ini R mc ms Q cells slots G I J  pc lv (.long x :: st) := fun p e s m args below meth c H locs ls X hR hS hl => lv_lstore_n X.1 X.2.1 d hi hl hn hv (fun ls2 hl2 => k p e s m args below meth c H locs ls2 X hR hS hl2)
theorem aw_lstore {i : Nat} {x : Int64} (d : decode cc pc = .ok (.lstore i, 2)) (hn : i + 1 < nL) (hv : (i, Value.long x) :: lv.filter (fun q => !(q.1 == i) && (!(q.1 == i + 1) && !(q.1 + 1 == i && q.2.category == 2))) = lv') (k : AW l D cy sz own cc nL ret ini R mc ms Q cells slots G I J  (pc + 2) lv' (st)) : AW l D cy sz own cc nL ret ini R mc ms Q cells slots G I J  pc lv (.long x :: st) := fun p e s m args below meth c H locs ls X hR hS hl => lv_lstore X.1 X.2.1 d hl hn hv (fun ls2 hl2 => k p e s m args below meth c H locs ls2 X hR hS hl2)
theorem aw_aload_n (place : Nat) {n : Fin 4} {i : Nat} {x : Nat} (d : decode cc pc = .ok (.aload_n n, 1)) (hi : (n : Nat) = i) (hp : lv[place]? = some (i, .ref x)) (k : AW l D cy sz own cc nL ret ini R mc ms Q cells slots G I J  (pc + 1) lv (.ref x :: st)) : AW l D cy sz own cc nL ret ini R mc ms Q cells slots G I J  pc lv (st) := fun p e s m args below meth c H locs ls X hR hS hl => lv_aload_n X.1 X.2.1 d hi (lv_at hl place hp) (k p e s m args below meth c H locs ls X hR hS hl)
theorem aw_aload (place : Nat) {i : Nat} {x : Nat} (d : decode cc pc = .ok (.aload i, 2)) (hp : lv[place]? = some (i, .ref x)) (k : AW l D cy sz own cc nL ret ini R mc ms Q cells slots G I J  (pc + 2) lv (.ref x :: st)) : AW l D cy sz own cc nL ret ini R mc ms Q cells slots G I J  pc lv (st) := fun p e s m args below meth c H locs ls X hR hS hl => lv_aload X.1 X.2.1 d (lv_at hl place hp) (k p e s m args below meth c H locs ls X hR hS hl)
theorem aw_astore_n {n : Fin 4} {i : Nat} {x : Nat} (d : decode cc pc = .ok (.astore_n n, 1)) (hi : (n : Nat) = i) (hn : i < nL) (hv : (i, Value.ref x) :: lv.filter (fun q => !(q.1 == i) && !(q.1 + 1 == i && q.2.category == 2)) = lv') (k : AW l D cy sz own cc nL ret ini R mc ms Q cells slots G I J  (pc + 1) lv' (st)) : AW l D cy sz own cc nL ret ini R mc ms Q cells slots G I J  pc lv (.ref x :: st) := fun p e s m args below meth c H locs ls X hR hS hl => lv_astore_n X.1 X.2.1 d hi hl hn hv (fun ls2 hl2 => k p e s m args below meth c H locs ls2 X hR hS hl2)
theorem aw_astore {i : Nat} {x : Nat} (d : decode cc pc = .ok (.astore i, 2)) (hn : i < nL) (hv : (i, Value.ref x) :: lv.filter (fun q => !(q.1 == i) && !(q.1 + 1 == i && q.2.category == 2)) = lv') (k : AW l D cy sz own cc nL ret ini R mc ms Q cells slots G I J  (pc + 2) lv' (st)) : AW l D cy sz own cc nL ret ini R mc ms Q cells slots G I J  pc lv (.ref x :: st) := fun p e s m args below meth c H locs ls X hR hS hl => lv_astore X.1 X.2.1 d hl hn hv (fun ls2 hl2 => k p e s m args below meth c H locs ls2 X hR hS hl2)
theorem aw_iinc (place : Nat) {i : Nat} {n : Int} {x v : Int32} (d : decode cc pc = .ok (.iinc i n, 3)) (hp : lv[place]? = some (i, .int x)) (hv : x + Int32.ofInt n = v) (hn : i < nL) (hw : (i, Value.int v) :: lv.filter (fun q => !(q.1 == i) && !(q.1 + 1 == i && q.2.category == 2)) = lv') (k : AW l D cy sz own cc nL ret ini R mc ms Q cells slots G I J  (pc + 3) lv' (st)) : AW l D cy sz own cc nL ret ini R mc ms Q cells slots G I J  pc lv (st) := fun p e s m args below meth c H locs ls X hR hS hl => lv_iinc X.1 X.2.1 d hl hp hv hn hw (fun ls2 hl2 => k p e s m args below meth c H locs ls2 X hR hS hl2)
theorem aw_iadd {x y : Int32} (d : decode cc pc = .ok (.iadd, 1)) (k : AW l D cy sz own cc nL ret ini R mc ms Q cells slots G I J  (pc + 1) lv (.int (x + y) :: st)) : AW l D cy sz own cc nL ret ini R mc ms Q cells slots G I J  pc lv (.int y :: .int x :: st) := fun p e s m args below meth c H locs ls X hR hS hl => lv_iadd X.1 X.2.1 d (k p e s m args below meth c H locs ls X hR hS hl)
theorem aw_isub {x y : Int32} (d : decode cc pc = .ok (.isub, 1)) (k : AW l D cy sz own cc nL ret ini R mc ms Q cells slots G I J  (pc + 1) lv (.int (x - y) :: st)) : AW l D cy sz own cc nL ret ini R mc ms Q cells slots G I J  pc lv (.int y :: .int x :: st) := fun p e s m args below meth c H locs ls X hR hS hl => lv_isub X.1 X.2.1 d (k p e s m args below meth c H locs ls X hR hS hl)
theorem aw_imul {x y : Int32} (d : decode cc pc = .ok (.imul, 1)) (k : AW l D cy sz own cc nL ret ini R mc ms Q cells slots G I J  (pc + 1) lv (.int (x * y) :: st)) : AW l D cy sz own cc nL ret ini R mc ms Q cells slots G I J  pc lv (.int y :: .int x :: st) := fun p e s m args below meth c H locs ls X hR hS hl => lv_imul X.1 X.2.1 d (k p e s m args below meth c H locs ls X hR hS hl)
theorem aw_iand {x y : Int32} (d : decode cc pc = .ok (.iand, 1)) (k : AW l D cy sz own cc nL ret ini R mc ms Q cells slots G I J  (pc + 1) lv (.int (x &&& y) :: st)) : AW l D cy sz own cc nL ret ini R mc ms Q cells slots G I J  pc lv (.int y :: .int x :: st) := fun p e s m args below meth c H locs ls X hR hS hl => lv_iand X.1 X.2.1 d (k p e s m args below meth c H locs ls X hR hS hl)
theorem aw_ior {x y : Int32} (d : decode cc pc = .ok (.ior, 1)) (k : AW l D cy sz own cc nL ret ini R mc ms Q cells slots G I J  (pc + 1) lv (.int (x ||| y) :: st)) : AW l D cy sz own cc nL ret ini R mc ms Q cells slots G I J  pc lv (.int y :: .int x :: st) := fun p e s m args below meth c H locs ls X hR hS hl => lv_ior X.1 X.2.1 d (k p e s m args below meth c H locs ls X hR hS hl)
theorem aw_ixor {x y : Int32} (d : decode cc pc = .ok (.ixor, 1)) (k : AW l D cy sz own cc nL ret ini R mc ms Q cells slots G I J  (pc + 1) lv (.int (x ^^^ y) :: st)) : AW l D cy sz own cc nL ret ini R mc ms Q cells slots G I J  pc lv (.int y :: .int x :: st) := fun p e s m args below meth c H locs ls X hR hS hl => lv_ixor X.1 X.2.1 d (k p e s m args below meth c H locs ls X hR hS hl)
theorem aw_ishl {x y : Int32} (d : decode cc pc = .ok (.ishl, 1)) (k : AW l D cy sz own cc nL ret ini R mc ms Q cells slots G I J  (pc + 1) lv (.int (x <<< (y &&& 31)) :: st)) : AW l D cy sz own cc nL ret ini R mc ms Q cells slots G I J  pc lv (.int y :: .int x :: st) := fun p e s m args below meth c H locs ls X hR hS hl => lv_ishl X.1 X.2.1 d (k p e s m args below meth c H locs ls X hR hS hl)
theorem aw_ishr {x y : Int32} (d : decode cc pc = .ok (.ishr, 1)) (k : AW l D cy sz own cc nL ret ini R mc ms Q cells slots G I J  (pc + 1) lv (.int (x >>> (y &&& 31)) :: st)) : AW l D cy sz own cc nL ret ini R mc ms Q cells slots G I J  pc lv (.int y :: .int x :: st) := fun p e s m args below meth c H locs ls X hR hS hl => lv_ishr X.1 X.2.1 d (k p e s m args below meth c H locs ls X hR hS hl)
theorem aw_ladd {x y : Int64} (d : decode cc pc = .ok (.ladd, 1)) (k : AW l D cy sz own cc nL ret ini R mc ms Q cells slots G I J  (pc + 1) lv (.long (x + y) :: st)) : AW l D cy sz own cc nL ret ini R mc ms Q cells slots G I J  pc lv (.long y :: .long x :: st) := fun p e s m args below meth c H locs ls X hR hS hl => lv_ladd X.1 X.2.1 d (k p e s m args below meth c H locs ls X hR hS hl)
theorem aw_lsub {x y : Int64} (d : decode cc pc = .ok (.lsub, 1)) (k : AW l D cy sz own cc nL ret ini R mc ms Q cells slots G I J  (pc + 1) lv (.long (x - y) :: st)) : AW l D cy sz own cc nL ret ini R mc ms Q cells slots G I J  pc lv (.long y :: .long x :: st) := fun p e s m args below meth c H locs ls X hR hS hl => lv_lsub X.1 X.2.1 d (k p e s m args below meth c H locs ls X hR hS hl)
theorem aw_lmul {x y : Int64} (d : decode cc pc = .ok (.lmul, 1)) (k : AW l D cy sz own cc nL ret ini R mc ms Q cells slots G I J  (pc + 1) lv (.long (x * y) :: st)) : AW l D cy sz own cc nL ret ini R mc ms Q cells slots G I J  pc lv (.long y :: .long x :: st) := fun p e s m args below meth c H locs ls X hR hS hl => lv_lmul X.1 X.2.1 d (k p e s m args below meth c H locs ls X hR hS hl)
theorem aw_land {x y : Int64} (d : decode cc pc = .ok (.land, 1)) (k : AW l D cy sz own cc nL ret ini R mc ms Q cells slots G I J  (pc + 1) lv (.long (x &&& y) :: st)) : AW l D cy sz own cc nL ret ini R mc ms Q cells slots G I J  pc lv (.long y :: .long x :: st) := fun p e s m args below meth c H locs ls X hR hS hl => lv_land X.1 X.2.1 d (k p e s m args below meth c H locs ls X hR hS hl)
theorem aw_lor {x y : Int64} (d : decode cc pc = .ok (.lor, 1)) (k : AW l D cy sz own cc nL ret ini R mc ms Q cells slots G I J  (pc + 1) lv (.long (x ||| y) :: st)) : AW l D cy sz own cc nL ret ini R mc ms Q cells slots G I J  pc lv (.long y :: .long x :: st) := fun p e s m args below meth c H locs ls X hR hS hl => lv_lor X.1 X.2.1 d (k p e s m args below meth c H locs ls X hR hS hl)
theorem aw_lxor {x y : Int64} (d : decode cc pc = .ok (.lxor, 1)) (k : AW l D cy sz own cc nL ret ini R mc ms Q cells slots G I J  (pc + 1) lv (.long (x ^^^ y) :: st)) : AW l D cy sz own cc nL ret ini R mc ms Q cells slots G I J  pc lv (.long y :: .long x :: st) := fun p e s m args below meth c H locs ls X hR hS hl => lv_lxor X.1 X.2.1 d (k p e s m args below meth c H locs ls X hR hS hl)
theorem aw_idiv {x y : Int32} (d : decode cc pc = .ok (.idiv, 1)) (h0 : ¬ y = 0) (k : AW l D cy sz own cc nL ret ini R mc ms Q cells slots G I J  (pc + 1) lv (.int (x / y) :: st)) : AW l D cy sz own cc nL ret ini R mc ms Q cells slots G I J  pc lv (.int y :: .int x :: st) := fun p e s m args below meth c H locs ls X hR hS hl => lv_idiv X.1 X.2.1 d h0 (k p e s m args below meth c H locs ls X hR hS hl)
theorem aw_irem {x y : Int32} (d : decode cc pc = .ok (.irem, 1)) (h0 : ¬ y = 0) (k : AW l D cy sz own cc nL ret ini R mc ms Q cells slots G I J  (pc + 1) lv (.int (x - x / y * y) :: st)) : AW l D cy sz own cc nL ret ini R mc ms Q cells slots G I J  pc lv (.int y :: .int x :: st) := fun p e s m args below meth c H locs ls X hR hS hl => lv_irem X.1 X.2.1 d h0 (k p e s m args below meth c H locs ls X hR hS hl)
theorem aw_ldiv {x y : Int64} (d : decode cc pc = .ok (.ldiv, 1)) (h0 : ¬ y = 0) (k : AW l D cy sz own cc nL ret ini R mc ms Q cells slots G I J  (pc + 1) lv (.long (x / y) :: st)) : AW l D cy sz own cc nL ret ini R mc ms Q cells slots G I J  pc lv (.long y :: .long x :: st) := fun p e s m args below meth c H locs ls X hR hS hl => lv_ldiv X.1 X.2.1 d h0 (k p e s m args below meth c H locs ls X hR hS hl)
theorem aw_lrem {x y : Int64} (d : decode cc pc = .ok (.lrem, 1)) (h0 : ¬ y = 0) (k : AW l D cy sz own cc nL ret ini R mc ms Q cells slots G I J  (pc + 1) lv (.long (x - x / y * y) :: st)) : AW l D cy sz own cc nL ret ini R mc ms Q cells slots G I J  pc lv (.long y :: .long x :: st) := fun p e s m args below meth c H locs ls X hR hS hl => lv_lrem X.1 X.2.1 d h0 (k p e s m args below meth c H locs ls X hR hS hl)
theorem aw_ineg {x : Int32} (d : decode cc pc = .ok (.ineg, 1)) (k : AW l D cy sz own cc nL ret ini R mc ms Q cells slots G I J  (pc + 1) lv (.int (-x) :: st)) : AW l D cy sz own cc nL ret ini R mc ms Q cells slots G I J  pc lv (.int x :: st) := fun p e s m args below meth c H locs ls X hR hS hl => lv_ineg X.1 X.2.1 d (k p e s m args below meth c H locs ls X hR hS hl)
theorem aw_iushr {x y : Int32} (d : decode cc pc = .ok (.iushr, 1)) (k : AW l D cy sz own cc nL ret ini R mc ms Q cells slots G I J  (pc + 1) lv (.int (x.toUInt32 >>> (y.toUInt32 &&& Int32.toUInt32 31)).toInt32 :: st)) : AW l D cy sz own cc nL ret ini R mc ms Q cells slots G I J  pc lv (.int y :: .int x :: st) := fun p e s m args below meth c H locs ls X hR hS hl => lv_iushr X.1 X.2.1 d rfl (k p e s m args below meth c H locs ls X hR hS hl)
theorem aw_lushr {x : Int64} {y : Int32} (d : decode cc pc = .ok (.lushr, 1)) (k : AW l D cy sz own cc nL ret ini R mc ms Q cells slots G I J  (pc + 1) lv (.long (x.toUInt64 >>> (y.toInt64.toUInt64 &&& Int64.toUInt64 63)).toInt64 :: st)) : AW l D cy sz own cc nL ret ini R mc ms Q cells slots G I J  pc lv (.int y :: .long x :: st) := fun p e s m args below meth c H locs ls X hR hS hl => lv_lushr X.1 X.2.1 d rfl (k p e s m args below meth c H locs ls X hR hS hl)
theorem aw_lshl {x : Int64} {y : Int32} (d : decode cc pc = .ok (.lshl, 1)) (k : AW l D cy sz own cc nL ret ini R mc ms Q cells slots G I J  (pc + 1) lv (.long (x <<< (y.toInt64 &&& 63)) :: st)) : AW l D cy sz own cc nL ret ini R mc ms Q cells slots G I J  pc lv (.int y :: .long x :: st) := fun p e s m args below meth c H locs ls X hR hS hl => lv_lshl X.1 X.2.1 d rfl (k p e s m args below meth c H locs ls X hR hS hl)
theorem aw_lshr {x : Int64} {y : Int32} (d : decode cc pc = .ok (.lshr, 1)) (k : AW l D cy sz own cc nL ret ini R mc ms Q cells slots G I J  (pc + 1) lv (.long (x >>> (y.toInt64 &&& 63)) :: st)) : AW l D cy sz own cc nL ret ini R mc ms Q cells slots G I J  pc lv (.int y :: .long x :: st) := fun p e s m args below meth c H locs ls X hR hS hl => lv_lshr X.1 X.2.1 d rfl (k p e s m args below meth c H locs ls X hR hS hl)
theorem aw_i2l {x : Int32} (d : decode cc pc = .ok (.i2l, 1)) (k : AW l D cy sz own cc nL ret ini R mc ms Q cells slots G I J  (pc + 1) lv (.long x.toInt64 :: st)) : AW l D cy sz own cc nL ret ini R mc ms Q cells slots G I J  pc lv (.int x :: st) := fun p e s m args below meth c H locs ls X hR hS hl => lv_i2l X.1 X.2.1 d rfl (k p e s m args below meth c H locs ls X hR hS hl)
theorem aw_l2i {x : Int64} (d : decode cc pc = .ok (.l2i, 1)) (k : AW l D cy sz own cc nL ret ini R mc ms Q cells slots G I J  (pc + 1) lv (.int x.toInt32 :: st)) : AW l D cy sz own cc nL ret ini R mc ms Q cells slots G I J  pc lv (.long x :: st) := fun p e s m args below meth c H locs ls X hR hS hl => lv_l2i X.1 X.2.1 d rfl (k p e s m args below meth c H locs ls X hR hS hl)
theorem aw_i2b {x : Int32} (d : decode cc pc = .ok (.i2b, 1)) (k : AW l D cy sz own cc nL ret ini R mc ms Q cells slots G I J  (pc + 1) lv (.int x.toInt8.toInt32 :: st)) : AW l D cy sz own cc nL ret ini R mc ms Q cells slots G I J  pc lv (.int x :: st) := fun p e s m args below meth c H locs ls X hR hS hl => lv_i2b X.1 X.2.1 d rfl (k p e s m args below meth c H locs ls X hR hS hl)
theorem aw_i2s {x : Int32} (d : decode cc pc = .ok (.i2s, 1)) (k : AW l D cy sz own cc nL ret ini R mc ms Q cells slots G I J  (pc + 1) lv (.int x.toInt16.toInt32 :: st)) : AW l D cy sz own cc nL ret ini R mc ms Q cells slots G I J  pc lv (.int x :: st) := fun p e s m args below meth c H locs ls X hR hS hl => lv_i2s X.1 X.2.1 d rfl (k p e s m args below meth c H locs ls X hR hS hl)
theorem aw_lcmp {x y : Int64} (d : decode cc pc = .ok (.lcmp, 1)) (k : AW l D cy sz own cc nL ret ini R mc ms Q cells slots G I J  (pc + 1) lv (.int (lg_cmp x y) :: st)) : AW l D cy sz own cc nL ret ini R mc ms Q cells slots G I J  pc lv (.long y :: .long x :: st) := fun p e s m args below meth c H locs ls X hR hS hl => W.lcmp X.1 X.2.1 d (k p e s m args below meth c H locs ls X hR hS hl)
theorem aw_dup {va : Value} (d : decode cc pc = .ok (.dup, 1)) (ha : va.category = 1) (k : AW l D cy sz own cc nL ret ini R mc ms Q cells slots G I J  (pc + 1) lv (va :: va :: st)) : AW l D cy sz own cc nL ret ini R mc ms Q cells slots G I J  pc lv (va :: st) := fun p e s m args below meth c H locs ls X hR hS hl => lv_dup X.1 X.2.1 d ha (k p e s m args below meth c H locs ls X hR hS hl)
theorem aw_pop {va : Value} (d : decode cc pc = .ok (.pop, 1)) (ha : va.category = 1) (k : AW l D cy sz own cc nL ret ini R mc ms Q cells slots G I J  (pc + 1) lv (st)) : AW l D cy sz own cc nL ret ini R mc ms Q cells slots G I J  pc lv (va :: st) := fun p e s m args below meth c H locs ls X hR hS hl => lv_pop X.1 X.2.1 d ha (k p e s m args below meth c H locs ls X hR hS hl)
theorem aw_dup_x1 {va vb : Value} (d : decode cc pc = .ok (.dup_x1, 1)) (ha : va.category = 1) (hb : vb.category = 1) (k : AW l D cy sz own cc nL ret ini R mc ms Q cells slots G I J  (pc + 1) lv (va :: vb :: va :: st)) : AW l D cy sz own cc nL ret ini R mc ms Q cells slots G I J  pc lv (va :: vb :: st) := fun p e s m args below meth c H locs ls X hR hS hl => lv_dup_x1 X.1 X.2.1 d ha hb (k p e s m args below meth c H locs ls X hR hS hl)
theorem aw_dup2 {va vb : Value} (d : decode cc pc = .ok (.dup2, 1)) (ha : va.category = 1) (hb : vb.category = 1) (k : AW l D cy sz own cc nL ret ini R mc ms Q cells slots G I J  (pc + 1) lv (va :: vb :: va :: vb :: st)) : AW l D cy sz own cc nL ret ini R mc ms Q cells slots G I J  pc lv (va :: vb :: st) := fun p e s m args below meth c H locs ls X hR hS hl => lv_dup2_11 X.1 X.2.1 d ha hb (k p e s m args below meth c H locs ls X hR hS hl)
theorem aw_dup2L {va : Value} (d : decode cc pc = .ok (.dup2, 1)) (ha : va.category = 2) (k : AW l D cy sz own cc nL ret ini R mc ms Q cells slots G I J  (pc + 1) lv (va :: va :: st)) : AW l D cy sz own cc nL ret ini R mc ms Q cells slots G I J  pc lv (va :: st) := fun p e s m args below meth c H locs ls X hR hS hl => lv_dup2_2 X.1 X.2.1 d ha (k p e s m args below meth c H locs ls X hR hS hl)
theorem aw_goto {off : Int} (tgt : Nat) (d : decode cc pc = .ok (.goto off, 3)) (ht : (pc : Int) + off = (tgt : Int)) (k : AW l D cy sz own cc nL ret ini R mc ms Q cells slots G I J  tgt lv st) : AW l D cy sz own cc nL ret ini R mc ms Q cells slots G I J  pc lv st := fun p e s m args below meth c H locs ls X hR hS hl => lv_goto X.1 X.2.1 d ht (k p e s m args below meth c H locs ls X hR hS hl)
theorem aw_if_eq {x : Int32} {off : Int} (tgt : Nat) (d : decode cc pc = .ok (.ifCond .eq off, 3)) (ht : (pc : Int) + off = (tgt : Int)) (kt : x = 0 → AW l D cy sz own cc nL ret ini R mc ms Q cells slots G I J  tgt lv st) (kf : ¬ (x = 0) → AW l D cy sz own cc nL ret ini R mc ms Q cells slots G I J  (pc + 3) lv st) : AW l D cy sz own cc nL ret ini R mc ms Q cells slots G I J  pc lv (.int x :: st) := fun p e s m args below meth c H locs ls X hR hS hl => lv_if_eq X.1 X.2.1 d ht (fun q => kt (by first | exact q | exact fun z => q z) p e s m args below meth c H locs ls X hR hS hl) (fun q => kf (by first | exact q | exact fun z => z q) p e s m args below meth c H locs ls X hR hS hl)
theorem aw_if_ne {x : Int32} {off : Int} (tgt : Nat) (d : decode cc pc = .ok (.ifCond .ne off, 3)) (ht : (pc : Int) + off = (tgt : Int)) (kt : ¬ x = 0 → AW l D cy sz own cc nL ret ini R mc ms Q cells slots G I J  tgt lv st) (kf : ¬ (¬ x = 0) → AW l D cy sz own cc nL ret ini R mc ms Q cells slots G I J  (pc + 3) lv st) : AW l D cy sz own cc nL ret ini R mc ms Q cells slots G I J  pc lv (.int x :: st) := fun p e s m args below meth c H locs ls X hR hS hl => lv_if_ne X.1 X.2.1 d ht (fun q => kt (by first | exact q | exact fun z => q z) p e s m args below meth c H locs ls X hR hS hl) (fun q => kf (by first | exact q | exact fun z => z q) p e s m args below meth c H locs ls X hR hS hl)
theorem aw_if_lt {x : Int32} {off : Int} (tgt : Nat) (d : decode cc pc = .ok (.ifCond .lt off, 3)) (ht : (pc : Int) + off = (tgt : Int)) (kt : x < 0 → AW l D cy sz own cc nL ret ini R mc ms Q cells slots G I J  tgt lv st) (kf : ¬ (x < 0) → AW l D cy sz own cc nL ret ini R mc ms Q cells slots G I J  (pc + 3) lv st) : AW l D cy sz own cc nL ret ini R mc ms Q cells slots G I J  pc lv (.int x :: st) := fun p e s m args below meth c H locs ls X hR hS hl => lv_if_lt X.1 X.2.1 d ht (fun q => kt (by first | exact q | exact fun z => q z) p e s m args below meth c H locs ls X hR hS hl) (fun q => kf (by first | exact q | exact fun z => z q) p e s m args below meth c H locs ls X hR hS hl)
theorem aw_if_ge {x : Int32} {off : Int} (tgt : Nat) (d : decode cc pc = .ok (.ifCond .ge off, 3)) (ht : (pc : Int) + off = (tgt : Int)) (kt : 0 ≤ x → AW l D cy sz own cc nL ret ini R mc ms Q cells slots G I J  tgt lv st) (kf : ¬ (0 ≤ x) → AW l D cy sz own cc nL ret ini R mc ms Q cells slots G I J  (pc + 3) lv st) : AW l D cy sz own cc nL ret ini R mc ms Q cells slots G I J  pc lv (.int x :: st) := fun p e s m args below meth c H locs ls X hR hS hl => lv_if_ge X.1 X.2.1 d ht (fun q => kt (by first | exact q | exact fun z => q z) p e s m args below meth c H locs ls X hR hS hl) (fun q => kf (by first | exact q | exact fun z => z q) p e s m args below meth c H locs ls X hR hS hl)
theorem aw_if_gt {x : Int32} {off : Int} (tgt : Nat) (d : decode cc pc = .ok (.ifCond .gt off, 3)) (ht : (pc : Int) + off = (tgt : Int)) (kt : 0 < x → AW l D cy sz own cc nL ret ini R mc ms Q cells slots G I J  tgt lv st) (kf : ¬ (0 < x) → AW l D cy sz own cc nL ret ini R mc ms Q cells slots G I J  (pc + 3) lv st) : AW l D cy sz own cc nL ret ini R mc ms Q cells slots G I J  pc lv (.int x :: st) := fun p e s m args below meth c H locs ls X hR hS hl => lv_if_gt X.1 X.2.1 d ht (fun q => kt (by first | exact q | exact fun z => q z) p e s m args below meth c H locs ls X hR hS hl) (fun q => kf (by first | exact q | exact fun z => z q) p e s m args below meth c H locs ls X hR hS hl)
theorem aw_if_le {x : Int32} {off : Int} (tgt : Nat) (d : decode cc pc = .ok (.ifCond .le off, 3)) (ht : (pc : Int) + off = (tgt : Int)) (kt : x ≤ 0 → AW l D cy sz own cc nL ret ini R mc ms Q cells slots G I J  tgt lv st) (kf : ¬ (x ≤ 0) → AW l D cy sz own cc nL ret ini R mc ms Q cells slots G I J  (pc + 3) lv st) : AW l D cy sz own cc nL ret ini R mc ms Q cells slots G I J  pc lv (.int x :: st) := fun p e s m args below meth c H locs ls X hR hS hl => lv_if_le X.1 X.2.1 d ht (fun q => kt (by first | exact q | exact fun z => q z) p e s m args below meth c H locs ls X hR hS hl) (fun q => kf (by first | exact q | exact fun z => z q) p e s m args below meth c H locs ls X hR hS hl)
theorem aw_icmp_eq {x y : Int32} {off : Int} (tgt : Nat) (d : decode cc pc = .ok (.if_icmp .eq off, 3)) (ht : (pc : Int) + off = (tgt : Int)) (kt : x = y → AW l D cy sz own cc nL ret ini R mc ms Q cells slots G I J  tgt lv st) (kf : ¬ (x = y) → AW l D cy sz own cc nL ret ini R mc ms Q cells slots G I J  (pc + 3) lv st) : AW l D cy sz own cc nL ret ini R mc ms Q cells slots G I J  pc lv (.int y :: .int x :: st) := fun p e s m args below meth c H locs ls X hR hS hl => lv_icmp_eq X.1 X.2.1 d ht (fun q => kt (by first | exact q | exact fun z => q z) p e s m args below meth c H locs ls X hR hS hl) (fun q => kf (by first | exact q | exact fun z => z q) p e s m args below meth c H locs ls X hR hS hl)
theorem aw_icmp_ne {x y : Int32} {off : Int} (tgt : Nat) (d : decode cc pc = .ok (.if_icmp .ne off, 3)) (ht : (pc : Int) + off = (tgt : Int)) (kt : ¬ x = y → AW l D cy sz own cc nL ret ini R mc ms Q cells slots G I J  tgt lv st) (kf : ¬ (¬ x = y) → AW l D cy sz own cc nL ret ini R mc ms Q cells slots G I J  (pc + 3) lv st) : AW l D cy sz own cc nL ret ini R mc ms Q cells slots G I J  pc lv (.int y :: .int x :: st) := fun p e s m args below meth c H locs ls X hR hS hl => lv_icmp_ne X.1 X.2.1 d ht (fun q => kt (by first | exact q | exact fun z => q z) p e s m args below meth c H locs ls X hR hS hl) (fun q => kf (by first | exact q | exact fun z => z q) p e s m args below meth c H locs ls X hR hS hl)
theorem aw_icmp_lt {x y : Int32} {off : Int} (tgt : Nat) (d : decode cc pc = .ok (.if_icmp .lt off, 3)) (ht : (pc : Int) + off = (tgt : Int)) (kt : x < y → AW l D cy sz own cc nL ret ini R mc ms Q cells slots G I J  tgt lv st) (kf : ¬ (x < y) → AW l D cy sz own cc nL ret ini R mc ms Q cells slots G I J  (pc + 3) lv st) : AW l D cy sz own cc nL ret ini R mc ms Q cells slots G I J  pc lv (.int y :: .int x :: st) := fun p e s m args below meth c H locs ls X hR hS hl => lv_icmp_lt X.1 X.2.1 d ht (fun q => kt (by first | exact q | exact fun z => q z) p e s m args below meth c H locs ls X hR hS hl) (fun q => kf (by first | exact q | exact fun z => z q) p e s m args below meth c H locs ls X hR hS hl)
theorem aw_icmp_ge {x y : Int32} {off : Int} (tgt : Nat) (d : decode cc pc = .ok (.if_icmp .ge off, 3)) (ht : (pc : Int) + off = (tgt : Int)) (kt : y ≤ x → AW l D cy sz own cc nL ret ini R mc ms Q cells slots G I J  tgt lv st) (kf : ¬ (y ≤ x) → AW l D cy sz own cc nL ret ini R mc ms Q cells slots G I J  (pc + 3) lv st) : AW l D cy sz own cc nL ret ini R mc ms Q cells slots G I J  pc lv (.int y :: .int x :: st) := fun p e s m args below meth c H locs ls X hR hS hl => lv_icmp_ge X.1 X.2.1 d ht (fun q => kt (by first | exact q | exact fun z => q z) p e s m args below meth c H locs ls X hR hS hl) (fun q => kf (by first | exact q | exact fun z => z q) p e s m args below meth c H locs ls X hR hS hl)
theorem aw_icmp_gt {x y : Int32} {off : Int} (tgt : Nat) (d : decode cc pc = .ok (.if_icmp .gt off, 3)) (ht : (pc : Int) + off = (tgt : Int)) (kt : y < x → AW l D cy sz own cc nL ret ini R mc ms Q cells slots G I J  tgt lv st) (kf : ¬ (y < x) → AW l D cy sz own cc nL ret ini R mc ms Q cells slots G I J  (pc + 3) lv st) : AW l D cy sz own cc nL ret ini R mc ms Q cells slots G I J  pc lv (.int y :: .int x :: st) := fun p e s m args below meth c H locs ls X hR hS hl => lv_icmp_gt X.1 X.2.1 d ht (fun q => kt (by first | exact q | exact fun z => q z) p e s m args below meth c H locs ls X hR hS hl) (fun q => kf (by first | exact q | exact fun z => z q) p e s m args below meth c H locs ls X hR hS hl)
theorem aw_icmp_le {x y : Int32} {off : Int} (tgt : Nat) (d : decode cc pc = .ok (.if_icmp .le off, 3)) (ht : (pc : Int) + off = (tgt : Int)) (kt : x ≤ y → AW l D cy sz own cc nL ret ini R mc ms Q cells slots G I J  tgt lv st) (kf : ¬ (x ≤ y) → AW l D cy sz own cc nL ret ini R mc ms Q cells slots G I J  (pc + 3) lv st) : AW l D cy sz own cc nL ret ini R mc ms Q cells slots G I J  pc lv (.int y :: .int x :: st) := fun p e s m args below meth c H locs ls X hR hS hl => lv_icmp_le X.1 X.2.1 d ht (fun q => kt (by first | exact q | exact fun z => q z) p e s m args below meth c H locs ls X hR hS hl) (fun q => kf (by first | exact q | exact fun z => z q) p e s m args below meth c H locs ls X hR hS hl)
theorem aw_tableOut {dflt lo hi : Int} {offs : Array Int} {len : Nat} {x : Int32} (tgt : Nat) (d : decode cc pc = .ok (.tableswitch dflt lo hi offs, len)) (h : x.toInt < lo ∨ hi < x.toInt) (ht : (pc : Int) + dflt = (tgt : Int)) (k : AW l D cy sz own cc nL ret ini R mc ms Q cells slots G I J  tgt lv st) : AW l D cy sz own cc nL ret ini R mc ms Q cells slots G I J  pc lv (.int x :: st) := fun p e s m args below meth c H locs ls X hR hS hl => lv_tableOut X.1 X.2.1 d h ht (k p e s m args below meth c H locs ls X hR hS hl)
theorem aw_tableIn {dflt lo hi off : Int} {offs : Array Int} {len : Nat} {x : Int32} (tgt : Nat) (d : decode cc pc = .ok (.tableswitch dflt lo hi offs, len)) (h1 : ¬ x.toInt < lo) (h2 : ¬ hi < x.toInt) (ho : offs[(x.toInt - lo).toNat]? = some off) (ht : (pc : Int) + off = (tgt : Int)) (k : AW l D cy sz own cc nL ret ini R mc ms Q cells slots G I J  tgt lv st) : AW l D cy sz own cc nL ret ini R mc ms Q cells slots G I J  pc lv (.int x :: st) := fun p e s m args below meth c H locs ls X hR hS hl => lv_tableIn X.1 X.2.1 d h1 h2 ho ht (k p e s m args below meth c H locs ls X hR hS hl)
theorem aw_lookup {dflt off : Int} {ps : Array (Int × Int)} {len : Nat} {x : Int32} (tgt : Nat) (d : decode cc pc = .ok (.lookupswitch dflt ps, len)) (hp : (ps.toList.zip (ps.toList.drop 1)).all (fun (a, next) => a.1 < next.1) = true) (ho : Op.lookupswitch.offset ps.toList dflt x.toInt = off) (ht : (pc : Int) + off = (tgt : Int)) (k : AW l D cy sz own cc nL ret ini R mc ms Q cells slots G I J  tgt lv st) : AW l D cy sz own cc nL ret ini R mc ms Q cells slots G I J  pc lv (.int x :: st) := fun p e s m args below meth c H locs ls X hR hS hl => lv_lookup X.1 X.2.1 d hp ho ht (k p e s m args below meth c H locs ls X hR hS hl)
theorem aw_sub (ks : List Nat) (h : lv_pick lv ks = lv') (k : AW l D cy sz own cc nL ret ini R mc ms Q cells slots G I J  pc lv' st) : AW l D cy sz own cc nL ret ini R mc ms Q cells slots G I J  pc lv st := fun p e s m args below meth c H locs ls X hR hS hl => k p e s m args below meth c H locs ls X hR hS (lv_sub hl ks h)
theorem aw_widen (c2 s2 : Nat) (h1 : cells ≤ c2) (h2 : slots ≤ s2) (k : AW l D cy sz own cc nL ret ini R mc ms Q c2 s2 G I J pc lv st) : AW l D cy sz own cc nL ret ini R mc ms Q cells slots G I J  pc lv st := fun p e s m args below meth c H locs ls X hR hS hl => W.widen h1 h2 (k p e s m args below meth c H locs ls X hR hS hl)
theorem aw_get {a ci k idx N : Nat} {C : String} {T : u_T} {v : Value} (hc : vwCl[ci]? = some (C, T, N)) (hin : ∀ w ∈ u_ws C T N, w ∈ sw_T) (hk : k < N) (hN : sw_nf ci = N) (h50 : ci < 50) (hC : (T k).1 = C) (hv : (if sw_isR ci k then va_rf (sw_o sz (G.2.2.2.2 a k)) else .int (I a k)) = v)
    (hlink : Cond.fieldLink own idx C (T k).2.1 (T k).2.2.1 ∈ sw_T) (ha : a ∈ G.2.1 ∧ G.2.2.1 a = ci) (d : decode cc pc = .ok (.getfield idx, 3)) (kk : AW l D cy sz own cc nL ret ini R mc ms Q cells slots G I J  (pc + 3) lv (v :: st)) : AW l D cy sz own cc nL ret ini R mc ms Q cells slots G I J  pc lv (.ref (sz + a) :: st) := by
  intro p e s m args below meth c H locs ls X hR hS hl
  obtain ⟨q0, hq⟩ := sw_at (cy := cy) (sz := sz) (I := I) (J := J) ha.1
  rw [sw_E_obj ha.2 h50] at hq
  exact va_get X.1 X.2.1 X.2.2.2.2.2.2.2.1 hin X.2.2.2.2.2.2.1 X.2.2.2.2.2.2.2.2.1 hR.2.1 q0 hq hc k hk (X.2.2.2.2.2.2.2.1 _ hlink) (fun _ h => by rw [hC] at h; exact h) (by rw [sw_fs_get (by rw [hN]; exact hk)]; exact congrArg some hv) d (kk p e s m args below meth c H locs ls X hR hS hl)
theorem sw_Rel.of_set {G' : sw_G} {I' : sw_I} {J' : sw_J} {H H1 : Heap} {q0 a : Nat} {e : va_E} (hR : sw_Rel D cy sz G I J H) (hq : (sw_ws cy sz G I J)[q0]? = some (sz + a, sw_E cy sz G I J a)) (hn : G'.1 = G.1) (hL : G'.2.1 = G.2.1) (z : H1.size = H.size) (oq : ∀ q : Nat, q ≠ sz + a → H1[q]? = H[q]?)
    (ha : sw_E cy sz G' I' J' a = e) (ho : ∀ b, b ≠ a → sw_E cy sz G' I' J' b = sw_E cy sz G I J b) (he : va_at D vwCl (sz + a, e) H1) : sw_Rel D cy sz G' I' J' H1 := by
  have h1 := hR.2.1.set hR.2.2 hq he oq
  have h2 := hR.2.2.set (e := e) hq
  rw [sw_set hL hR.2.2 hq ha ho] at h1 h2
  exact ⟨by rw [z, hR.1, hn], h1, h2⟩
theorem sw_updV_fs {fs : List Value} {k : Nat} {v : Value} (h : k < fs.length) : ∀ j, updV (vp_V fs) k v j = vp_V (fs.set k v) j := fun j => vp_updV_set h v j
/-- a field of an object is written; the field isn't final -/
theorem aw_put0 {G2 : sw_G} {I2 : sw_I} {a ci k idx N : Nat} {C : String} {T : u_T} {v : Value} {ty : FieldType} (hc : vwCl[ci]? = some (C, T, N)) (hin : ∀ w ∈ u_ws C T N, w ∈ sw_T) (ty0 : Nat → FieldType) (hty : ∀ k, k < N → parseFieldDescriptor (T k).2.2.1 = some (ty0 k)) (hnm : ∀ a, a < N → ∀ b, b < N → a ≠ b → (T a).2.1 ≠ (T b).2.1)
    (hk : k < N) (hN : sw_nf ci = N) (h50 : ci < 50) (hC : (T k).1 = C) (hfin : (T k).2.2.2 = false) (hd : parseFieldDescriptor (T k).2.2.1 = some ty) (hn : narrow ty v = v) (hfit : fits ty v = true)
    (hlink : Cond.fieldLink own idx C (T k).2.1 (T k).2.2.1 ∈ sw_T) (ha : a ∈ G.2.1 ∧ G.2.2.1 a = ci) (d : decode cc pc = .ok (.putfield idx, 3))
    (hg1 : G2.1 = G.1) (hg2 : G2.2.1 = G.2.1) (hg3 : G2.2.2.1 = G.2.2.1) (hg4 : G2.2.2.2.1 = G.2.2.2.1) (hgr : ∀ b, b ≠ a → G2.2.2.2.2 b = G.2.2.2.2 b) (hgi : ∀ b, b ≠ a → I2 b = I b) (hf : sw_fs sz ci N a G2.2.2.2.2 I2 = (sw_fs sz ci N a G.2.2.2.2 I).set k v)
    (kk : AW l D cy sz own cc nL ret ini R mc ms Q cells slots G2 I2 J (pc + 3) lv st) : AW l D cy sz own cc nL ret ini R mc ms Q cells slots G I J pc lv (v :: .ref (sz + a) :: st) := by
  intro p e s m args below meth c H locs ls X hR hS hl
  obtain ⟨hx, hb, hml, hr, hlk, hini, hown, hts, hK, hsz⟩ := id X
  obtain ⟨q0, hq⟩ := sw_at (cy := cy) (sz := sz) (I := I) (J := J) ha.1
  have hP := hR.2.1 q0 _ hq
  rw [sw_E_obj ha.2 h50] at hP
  obtain ⟨r, h1, cell, q1, q2, q3, q4⟩ := hP
  have hr9 : r = (C, T, N) := Option.some.inj (h1.symm.trans hc)
  subst hr9
  have hap := va_apart (own := own) hts hin ty0 hty hnm hK hc
  obtain ⟨hSl, hfc, kC, hkC, hkind⟩ := hK.1 ci _ hc
  obtain ⟨cf, kf, fi, f, hi, hsl⟩ := hSl k hk
  have hlay := hts _ (hin _ (u_in_lay hk))
  unfold u_lay at hlay
  rw [if_neg (by rw [hfin]; decide)] at hlay
  have hst := (u_facts hfc hkC (u_lays hts hin hk) hi).1
  have h6 := u_store hfc hkC hkind hlay hi hd hn hfit
  refine W.putK hx hb (f := f) ⟨hown, hts _ hlink, ⟨_, _, _, by rw [hC] at hi; exact hi⟩, hst⟩ (by rw [q2]; exact h6) q1 q3 (by rw [hsl]; exact k2_hasslot (q4 k hk)) rfl rfl d fun H' e1 e2 e3 => ?_
  rw [hsl] at e1 ⊢
  refine kk p e s m args below meth c H' _ ls X (hR.of_set (e := .inr (ci, (sw_fs sz ci N a G.2.2.2.2 I).set k v)) hq hg1 hg2 e2 e3 ?_ (fun b hb9 => sw_E_cong (by rw [hg3]) (by rw [hg4]) (hgr b hb9) (hgi b hb9) rfl) ?_) (hS.put e2 e3 (Nat.le_add_right _ _)) hl
  · rw [sw_E_obj (by rw [hg3]; exact ha.2) h50, hN, hf]
  · rw [hN] at q4
    exact ⟨_, hc, t_OB.to (V := updV (vp_V (sw_fs sz ci N a G.2.2.2.2 I)) k v) ⟨_, e1, q2, q3, t_set q4 hap hk v⟩ (fun j _ => vp_updV_set (by rw [sw_fs_len]; exact hk) v j)⟩
theorem aw_putI {a ci k idx N : Nat} {C : String} {T : u_T} {v : Int32} {ty : FieldType} (hc : vwCl[ci]? = some (C, T, N)) (hin : ∀ w ∈ u_ws C T N, w ∈ sw_T) (ty0 : Nat → FieldType) (hty : ∀ k, k < N → parseFieldDescriptor (T k).2.2.1 = some (ty0 k)) (hnm : ∀ a, a < N → ∀ b, b < N → a ≠ b → (T a).2.1 ≠ (T b).2.1)
    (hk : k < N) (hN : sw_nf ci = N) (h50 : ci < 50) (hC : (T k).1 = C) (hfin : (T k).2.2.2 = false) (hd : parseFieldDescriptor (T k).2.2.1 = some ty) (hr : sw_isR ci k = false) (hn : narrow ty (.int v) = .int v) (hfit : fits ty (.int v) = true)
    (hlink : Cond.fieldLink own idx C (T k).2.1 (T k).2.2.1 ∈ sw_T) (ha : a ∈ G.2.1 ∧ G.2.2.1 a = ci) (d : decode cc pc = .ok (.putfield idx, 3))
    (kk : AW l D cy sz own cc nL ret ini R mc ms Q cells slots G (sw_up I a k v) J (pc + 3) lv st) : AW l D cy sz own cc nL ret ini R mc ms Q cells slots G I J pc lv (.int v :: .ref (sz + a) :: st) :=
  aw_put0 hc hin ty0 hty hnm hk hN h50 hC hfin hd hn hfit hlink ha d rfl rfl rfl rfl (fun _ _ => rfl) (fun b hb => sw_up_row I k v hb) (sw_fs_setI hr) kk
theorem aw_ild {a n : Nat} {i : Int32} (d : decode cc pc = .ok (.iaload, 1)) (ha : a ∈ G.2.1 ∧ G.2.2.1 a = 50) (hn : G.2.2.2.1 a = n) (hi : vp_in i n)
    (kk : AW l D cy sz own cc nL ret ini R mc ms Q cells slots G I J (pc + 1) lv (.int (I a i.toNatClampNeg) :: st)) : AW l D cy sz own cc nL ret ini R mc ms Q cells slots G I J pc lv (.int i :: .ref (sz + a) :: st) := by
  intro p e s m args below meth c H locs ls X hR hS hl
  obtain ⟨q0, hq⟩ := sw_at (cy := cy) (sz := sz) (I := I) (J := J) ha.1
  rw [sw_E_ints ha.2, hn] at hq
  exact va_iald X.1 X.2.1 X.2.2.2.2.2.2.2.2.1 hR.2.1 q0 0 hq rfl hi d (kk p e s m args below meth c H locs ls X hR hS hl)
theorem aw_zld {a n : Nat} {i : Int32} (d : decode cc pc = .ok (.baload, 1)) (ha : a ∈ G.2.1 ∧ G.2.2.1 a = 52) (hn : G.2.2.2.1 a = n) (hi : vp_in i n)
    (kk : AW l D cy sz own cc nL ret ini R mc ms Q cells slots G I J (pc + 1) lv (.int (I a i.toNatClampNeg) :: st)) : AW l D cy sz own cc nL ret ini R mc ms Q cells slots G I J pc lv (.int i :: .ref (sz + a) :: st) := by
  intro p e s m args below meth c H locs ls X hR hS hl
  obtain ⟨q0, hq⟩ := sw_at (cy := cy) (sz := sz) (I := I) (J := J) ha.1
  rw [sw_E_bools ha.2, hn] at hq
  exact va_zald X.1 X.2.1 X.2.2.2.2.2.2.2.2.1 hR.2.1 q0 2 hq rfl hi d (kk p e s m args below meth c H locs ls X hR hS hl)
theorem aw_lld {a n : Nat} {i : Int32} (d : decode cc pc = .ok (.laload, 1)) (ha : a ∈ G.2.1 ∧ G.2.2.1 a = 51) (hn : G.2.2.2.1 a = n) (hi : vp_in i n)
    (kk : AW l D cy sz own cc nL ret ini R mc ms Q cells slots G I J (pc + 1) lv (.long (J a i.toNatClampNeg) :: st)) : AW l D cy sz own cc nL ret ini R mc ms Q cells slots G I J pc lv (.int i :: .ref (sz + a) :: st) := by
  intro p e s m args below meth c H locs ls X hR hS hl
  obtain ⟨q0, hq⟩ := sw_at (cy := cy) (sz := sz) (I := I) (J := J) ha.1
  rw [sw_E_longs ha.2, hn] at hq
  exact va_lald X.1 X.2.1 X.2.2.2.2.2.2.2.2.1 hR.2.1 q0 1 hq rfl hi d (kk p e s m args below meth c H locs ls X hR hS hl)
theorem aw_ald {a n b : Nat} {i : Int32} (d : decode cc pc = .ok (.aaload, 1)) (ha : a ∈ G.2.1 ∧ G.2.2.1 a = 53) (hn : G.2.2.2.1 a = n) (hi : vp_in i n) (hb : G.2.2.2.2 a i.toNatClampNeg = some b)
    (kk : AW l D cy sz own cc nL ret ini R mc ms Q cells slots G I J (pc + 1) lv (.ref (sz + b) :: st)) : AW l D cy sz own cc nL ret ini R mc ms Q cells slots G I J pc lv (.int i :: .ref (sz + a) :: st) := by
  intro p e s m args below meth c H locs ls X hR hS hl
  obtain ⟨q0, hq⟩ := sw_at (cy := cy) (sz := sz) (I := I) (J := J) ha.1
  rw [sw_E_refs ha.2, hn] at hq
  refine va_aldq X.1 X.2.1 X.2.2.2.2.2.2.2.2.1 hR.2.1 q0 3 hq rfl hi d ?_
  have h9 : va_rf (sw_o sz (G.2.2.2.2 a i.toNatClampNeg)) = .ref (sz + b) := by rw [hb]; rfl
  rw [h9]
  exact kk p e s m args below meth c H locs ls X hR hS hl
theorem aw_alen {a n : Nat} (d : decode cc pc = .ok (.arraylength, 1)) (ha : a ∈ G.2.1 ∧ G.2.2.1 a = 50) (hn : G.2.2.2.1 a = n)
    (kk : AW l D cy sz own cc nL ret ini R mc ms Q cells slots G I J (pc + 1) lv (.int (Int32.ofNat n) :: st)) : AW l D cy sz own cc nL ret ini R mc ms Q cells slots G I J pc lv (.ref (sz + a) :: st) := by
  intro p e s m args below meth c H locs ls X hR hS hl
  obtain ⟨q0, hq⟩ := sw_at (cy := cy) (sz := sz) (I := I) (J := J) ha.1
  rw [sw_E_ints ha.2, hn] at hq
  exact va_alen X.1 X.2.1 X.2.2.2.2.2.2.2.2.1 hR.2.1 q0 0 hq rfl rfl d (kk p e s m args below meth c H locs ls X hR hS hl)
theorem aw_alenL {a n : Nat} (d : decode cc pc = .ok (.arraylength, 1)) (ha : a ∈ G.2.1 ∧ G.2.2.1 a = 51) (hn : G.2.2.2.1 a = n)
    (kk : AW l D cy sz own cc nL ret ini R mc ms Q cells slots G I J (pc + 1) lv (.int (Int32.ofNat n) :: st)) : AW l D cy sz own cc nL ret ini R mc ms Q cells slots G I J pc lv (.ref (sz + a) :: st) := by
  intro p e s m args below meth c H locs ls X hR hS hl
  obtain ⟨q0, hq⟩ := sw_at (cy := cy) (sz := sz) (I := I) (J := J) ha.1
  rw [sw_E_longs ha.2, hn] at hq
  exact va_alen X.1 X.2.1 X.2.2.2.2.2.2.2.2.1 hR.2.1 q0 1 hq rfl rfl d (kk p e s m args below meth c H locs ls X hR hS hl)
theorem sw_updI {I : sw_I} {a k : Nat} {x : Int32} : (fun j => Value.int (sw_up I a k x a j)) = updV (fun j => Value.int (I a j)) k (.int x) := by
  funext q
  by_cases hq : q = k
  · subst hq; simp [updV, sw_up]
  · simp [updV, sw_up, hq]
theorem sw_updJ {J : sw_J} {a k : Nat} {x : Int64} : (fun j => Value.long (sw_up J a k x a j)) = updV (fun j => Value.long (J a j)) k (.long x) := by
  funext q
  by_cases hq : q = k
  · subst hq; simp [updV, sw_up]
  · simp [updV, sw_up, hq]
theorem aw_ist {a n : Nat} {i x : Int32} (d : decode cc pc = .ok (.iastore, 1)) (ha : a ∈ G.2.1 ∧ G.2.2.1 a = 50) (hn : G.2.2.2.1 a = n) (hi : vp_in i n)
    (kk : AW l D cy sz own cc nL ret ini R mc ms Q cells slots G (sw_up I a i.toNatClampNeg x) J (pc + 1) lv st) : AW l D cy sz own cc nL ret ini R mc ms Q cells slots G I J pc lv (.int x :: .int i :: .ref (sz + a) :: st) := by
  intro p e s m args below meth c H locs ls X hR hS hl
  obtain ⟨q0, hq⟩ := sw_at (cy := cy) (sz := sz) (I := I) (J := J) ha.1
  have hP : H[sz + a]? = some (arrV (cy 0) n (fun j => .int (I a j))) := by
    have h1 := hR.2.1 q0 _ hq
    rw [sw_E_ints ha.2, hn] at h1
    exact h1
  refine W.iast X.1 X.2.1 hP ((X.2.2.2.2.2.2.2.2.1.2 0 _ rfl).1 n (fun j => .int (I a j))) (fun q => by cases q) (by rw [arrV_size]; exact hi) rfl rfl d fun H1 e1 z oq => ?_
  refine kk p e s m args below meth c H1 _ ls X (hR.of_set (e := .inl (cy 0, n, .inl (sw_up I a i.toNatClampNeg x a))) hq rfl rfl z oq (by rw [sw_E_ints ha.2, hn]) (fun b hb => sw_E_cong rfl rfl rfl (sw_up_row I _ x hb) rfl) ?_) (hS.put z oq (Nat.le_add_right _ _)) hl
  show H1[sz + a]? = some (vp_cell _ _)
  rw [e1, vp_cell_i, arrV_store, sw_updI]
theorem aw_lst {a n : Nat} {i : Int32} {x : Int64} (d : decode cc pc = .ok (.lastore, 1)) (ha : a ∈ G.2.1 ∧ G.2.2.1 a = 51) (hn : G.2.2.2.1 a = n) (hi : vp_in i n)
    (kk : AW l D cy sz own cc nL ret ini R mc ms Q cells slots G I (sw_up J a i.toNatClampNeg x) (pc + 1) lv st) : AW l D cy sz own cc nL ret ini R mc ms Q cells slots G I J pc lv (.long x :: .int i :: .ref (sz + a) :: st) := by
  intro p e s m args below meth c H locs ls X hR hS hl
  obtain ⟨q0, hq⟩ := sw_at (cy := cy) (sz := sz) (I := I) (J := J) ha.1
  have hP : H[sz + a]? = some (arrV (cy 1) n (fun j => .long (J a j))) := by
    have h1 := hR.2.1 q0 _ hq
    rw [sw_E_longs ha.2, hn] at h1
    exact h1
  refine W.last X.1 X.2.1 hP ((X.2.2.2.2.2.2.2.2.1.2 1 _ rfl).1 n (fun j => .long (J a j))) (fun q => by cases q) (by rw [arrV_size]; exact hi) rfl rfl d fun H1 e1 z oq => ?_
  refine kk p e s m args below meth c H1 _ ls X (hR.of_set (e := .inl (cy 1, n, .inr (.inl (sw_up J a i.toNatClampNeg x a)))) hq rfl rfl z oq (by rw [sw_E_longs ha.2, hn]) (fun b hb => sw_E_cong rfl rfl rfl rfl (sw_up_row J _ x hb)) ?_) (hS.put z oq (Nat.le_add_right _ _)) hl
  show H1[sz + a]? = some (vp_cell _ _)
  rw [e1, vp_cell_l, arrV_store, sw_updJ]
theorem aw_zst {a n : Nat} {i x : Int32} (d : decode cc pc = .ok (.bastore, 1)) (ha : a ∈ G.2.1 ∧ G.2.2.1 a = 52) (hn : G.2.2.2.1 a = n) (hi : vp_in i n) (hx01 : narrow .boolean (.int x) = .int x)
    (kk : AW l D cy sz own cc nL ret ini R mc ms Q cells slots G (sw_up I a i.toNatClampNeg x) J (pc + 1) lv st) : AW l D cy sz own cc nL ret ini R mc ms Q cells slots G I J pc lv (.int x :: .int i :: .ref (sz + a) :: st) := by
  intro p e s m args below meth c H locs ls X hR hS hl
  obtain ⟨q0, hq⟩ := sw_at (cy := cy) (sz := sz) (I := I) (J := J) ha.1
  have hP : H[sz + a]? = some (arrV (cy 2) n (fun j => .int (I a j))) := by
    have h1 := hR.2.1 q0 _ hq
    rw [sw_E_bools ha.2, hn] at h1
    exact h1
  refine W.zast X.1 X.2.1 hP ((X.2.2.2.2.2.2.2.2.1.2 2 _ rfl).1 n (fun j => .int (I a j))) (fun q => by cases q) (by rw [arrV_size]; exact hi) rfl rfl d fun H1 e1 z oq => ?_
  refine kk p e s m args below meth c H1 _ ls X (hR.of_set (e := .inl (cy 2, n, .inl (sw_up I a i.toNatClampNeg x a))) hq rfl rfl z oq (by rw [sw_E_bools ha.2, hn]) (fun b hb => sw_E_cong rfl rfl rfl (sw_up_row I _ x hb) rfl) ?_) (hS.put z oq (Nat.le_add_right _ _)) hl
  show H1[sz + a]? = some (vp_cell _ _)
  rw [e1, vp_cell_i, hx01, arrV_store, sw_updI]

end SWM
end
section
def sw_qi (G : sw_G) (Q : Int32 → sw_I → sw_J → Prop) : Option Value → sw_G → sw_I → sw_J → Prop := fun r G' I J => G' = G ∧ ∃ x : Int32, r = some (.int x) ∧ Q x I J
def sw_ql (G : sw_G) (Q : Int64 → sw_I → sw_J → Prop) : Option Value → sw_G → sw_I → sw_J → Prop := fun r G' I J => G' = G ∧ ∃ x : Int64, r = some (.long x) ∧ Q x I J
def sw_qv (G : sw_G) (Q : sw_I → sw_J → Prop) : Option Value → sw_G → sw_I → sw_J → Prop := fun r G' I J => G' = G ∧ r = none ∧ Q I J
def sw_D (y : MethodName) (n : Nat) : Prop := y.cls ≠ "java/lang/invoke/MethodHandle" ∧ y.cls ≠ "java/lang/invoke/VarHandle" ∧ (parseMethodDescriptor y.desc).map (fun d => d.parameters.length) = some n
/-- the words of a call of an instance method, of a static one -/
def sw_V (y : MethodName) (bytes : ByteArray) (maxL : Nat) (ret : Option FieldType) (n : Nat) : Prop := Cond.instanceMethod y ∈ sw_T ∧ Cond.selects y.cls y y ∈ sw_T ∧ Cond.initialized y.cls ∈ sw_T ∧ Cond.code y bytes maxL ret ∈ sw_T ∧ sw_D y n
def sw_S (y : MethodName) (bytes : ByteArray) (maxL : Nat) (ret : Option FieldType) (n : Nat) : Prop := Cond.static y ∈ sw_T ∧ Cond.initialized y.cls ∈ sw_T ∧ Cond.code y bytes maxL ret ∈ sw_T ∧ sw_D y n
theorem sw_goodc {w : Cond} (h : w ∈ sw_T) : GoodIn sw_T (w :: sw_T) := fun v hv => (List.mem_cons.mp hv).elim (fun e => e ▸ sw_good w h) (sw_good v)
theorem sw_blind {D : va_G} {cy : Nat → ClassId} {sz : Nat} {av : List Value} {G : sw_G} {I : sw_I} {J : sw_J} : FrameBlind (sw_Pc D cy sz av G I J) := fun a U g mk h => ⟨h.1, h.2.1, h.2.2.1, va_K.moved (u := U) (U := U.calling g mk a) (Vm.Alike.refl U.vm) h.2.2.2⟩
section SWC
variable {l : Launch} {D : va_G} {cy : Nat → ClassId} {sz : Nat} {own : String} {cc : ByteArray} {nL : Nat} {ret : Option FieldType} {ini : Bool} {R : Room} {mc ms cells slots : Nat} {Q : Option Value → sw_G → sw_I → sw_J → Prop} {G : sw_G} {I : sw_I} {J : sw_J} {pc : Nat} {lv lv' : List (Nat × Value)} {st st0 : List Value}
theorem aw_iret {v : Int32} (hr : ret = some .int) (d : decode cc pc = .ok (.ireturn, 1)) (hq : Q (some (.int v)) G I J) : AW l D cy sz own cc nL ret ini R cells slots Q cells slots G I J pc lv [.int v] := by
  subst hr
  intro p e s m args below meth c H locs ls X hR hS hl
  exact W.iret X.1 X.2.1 X.2.2.2.1 (fun t ht hW => ⟨⟨_, G, I, J, rfl, hq, by rw [ht]; exact hR, va_K.moved hW.alike X.2.2.2.2.2.2.2.2.1⟩, hS.F ht⟩) hS.2.2 d X.2.2.2.2.1
theorem aw_zret {v : Int32} {ty : FieldType} (hr : ret = some ty) (hv : narrow ty (.int v) = .int v) (d : decode cc pc = .ok (.ireturn, 1)) (hq : Q (some (.int v)) G I J) : AW l D cy sz own cc nL ret ini R cells slots Q cells slots G I J pc lv [.int v] := by
  subst hr
  intro p e s m args below meth c H locs ls X hR hS hl
  exact W.zret X.1 X.2.1 X.2.2.2.1 hv (fun t ht hW => ⟨⟨_, G, I, J, rfl, hq, by rw [ht]; exact hR, va_K.moved hW.alike X.2.2.2.2.2.2.2.2.1⟩, hS.F ht⟩) hS.2.2 d X.2.2.2.2.1
theorem aw_lret {v : Int64} (hr : ret = some .long) (d : decode cc pc = .ok (.lreturn, 1)) (hq : Q (some (.long v)) G I J) : AW l D cy sz own cc nL ret ini R cells slots Q cells slots G I J pc lv [.long v] := by
  subst hr
  intro p e s m args below meth c H locs ls X hR hS hl
  exact W.lret X.1 X.2.1 X.2.2.2.1 (fun t ht hW => ⟨⟨_, G, I, J, rfl, hq, by rw [ht]; exact hR, va_K.moved hW.alike X.2.2.2.2.2.2.2.2.1⟩, hS.F ht⟩) hS.2.2 d X.2.2.2.2.1
theorem aw_vret (hr : ret = none) (d : decode cc pc = .ok (.return_, 1)) (hq : Q none G I J) : AW l D cy sz own cc nL ret ini R cells slots Q cells slots G I J pc lv [] := by
  subst hr
  intro p e s m args below meth c H locs ls X hR hS hl
  exact W.vret X.1 X.2.1 X.2.2.2.1 (fun t ht hW => ⟨⟨_, G, I, J, rfl, hq, by rw [ht]; exact hR, va_K.moved hW.alike X.2.2.2.2.2.2.2.2.1⟩, hS.F ht⟩) hS.2.2 d X.2.2.2.2.1
theorem sw_met {y : MethodName} {av : List Value} (hy : plainName y.cls = true) (hini : ini = true → y.name = "<init>") (hlen : (lg_sl av).length ≤ nL) (hlv : lv_args 0 av = lv) (h : AW l D cy sz y.cls cc nL ret ini R mc ms Q 0 0 G I J 0 lv []) :
    Met l y (Cond.code y cc nL ret :: sw_T) R (sw_Pc D cy sz av G I J) (sw_Q D cy sz Q) mc ms (fun q => sz ≤ q) := by
  refine Met.ofW (cc := cc) (maxL := nL) (ret := ret) hy rfl ?_
  intro p e s m args below meth c s₁ B hml hv
  obtain ⟨rfl, hsz, hR, hK⟩ := hv
  have hts := atoms_spec (ws := Cond.code y cc nL ret :: sw_T) B.pre
  rw [lg_entry_eq]
  exact h p e s m _ below meth c s.heap [] _ ⟨B.exec, B.bytes, hml, B.returns, B.notSynchronized, fun hi => (name_of_methodNamed B.named B.method).1.trans (hini hi), findClass_of_methodNamed B.named, fun w hw => hts w (List.mem_cons_of_mem _ hw), hK, hsz⟩ hR va_S.rf (hlv ▸ lv_entry av hlen)
theorem sw_back {p : Program} {e : Env} {s : State} {m : MethodId} {args : Array Value} {below : List Frame} {meth : Method} {c : Code} {H : Heap} {locs : List Loc} {ls : Array Slot} {rest : List Value} {a : Array Value} {mc2 ms2 : Nat} {Qc : Option Value → sw_G → sw_I → sw_J → Prop} {Q9 : State → Prop}
    (hr : va_Run p l e R s m args below meth c H locs cells slots mc2 ms2 (F0 m pc ls st0) rest (sw_Q D cy sz Qc a) (fun q => sz ≤ q)) (hS : va_S (fun q => sz ≤ q) s.heap H locs)
    (kk : ∀ (r : Option Value) (G' : sw_G) (I' : sw_I) (J' : sw_J) (H1 : Heap) (locs1 : List Loc), Qc r G' I' J' → sw_Rel D cy sz G' I' J' H1 → va_S (fun q => sz ≤ q) s.heap H1 locs1 → W p l e R s m args below meth c H1 locs1 (cells + mc2) (slots + ms2) Q9 (F0 m (pc + 3) ls (r.toList ++ rest))) : W p l e R s m args below meth c H locs cells slots Q9 (F0 m pc ls st0) := by
  intro T hT X
  obtain ⟨v, st₀, t, T', L, h0, X', hL, e1, e2, ⟨⟨r, G', I', J', hv, hq, hR, hK⟩, hz, hk⟩, st⟩ := hr T hT X
  cases hv
  rw [h0] at hz hk
  obtain ⟨t2, a1, b1⟩ := kk _ G' I' J' T'.heap (locs ++ L) hq (by rw [e1]; exact hR)
    ⟨Nat.le_trans hS.1 (by rw [e1]; exact hz), fun q h1 h2 => by rw [e1, hk q (Nat.lt_of_lt_of_le h1 hS.1) h2]; exact hS.2.1 q h1 h2, fun q hq => by
      rcases List.mem_append.mp hq with h | h
      · exact hS.2.2 q h
      · exact hL q h⟩ T' rfl X'
  exact ⟨t2, st t2 a1, b1⟩
theorem sw_recv {s : State} {H : Heap} {ci b : Nat} {q : vw_C} (hK : va_K D vwCl (sw_tys cy) s) (hR : sw_Rel D cy sz G I J H) (hc : vwCl[ci]? = some q) (h50 : ci < 50) (hb : b ∈ G.2.1 ∧ G.2.2.1 b = ci) : ∃ cell : Cell, H[sz + b]? = some cell ∧ cell.vm.isStatics = false ∧ s.vm.findClass q.1 = some cell.cls := by
  obtain ⟨q0, hq⟩ := sw_at (cy := cy) (sz := sz) (I := I) (J := J) hb.1
  rw [sw_E_obj hb.2 h50] at hq
  exact va_recv hK hR.2.1 hc hq
theorem aw_callV {y : MethodName} {bytes : ByteArray} {maxL idx n mc2 ms2 b ci : Nat} {ret2 : Option FieldType} {rm : Room} {As : List Value} {T : u_T} {N : Nat} {Qc : Option Value → sw_G → sw_I → sw_J → Prop} (hV : sw_V y bytes maxL ret2 n)
    (hM : Met l y (Cond.code y bytes maxL ret2 :: sw_T) rm (sw_Pc D cy sz (.ref (sz + b) :: As) G I J) (sw_Q D cy sz Qc) mc2 ms2 (fun q => sz ≤ q))
    (hlink : Cond.methodLink own idx y ∈ sw_T) (hc : vwCl[ci]? = some (y.cls, T, N)) (h50 : ci < 50) (hb : b ∈ G.2.1 ∧ G.2.2.1 b = ci) (hn : As.length = n) (hst : st0 = As.reverse ++ .ref (sz + b) :: st) (hcat : (st.map fun v => v.category).sum ≤ 8)
    (hrm : rm.cells = mc2 ∧ rm.slots = ms2) (hro : rm.frames + 1 ≤ R.frames ∧ 8 + (maxL + 11) + rm.locals ≤ R.locals) (hf : cells + mc2 ≤ R.cells ∧ slots + ms2 ≤ R.slots) (d : decode cc pc = .ok (.invokevirtual idx, 3))
    (kk : ∀ (r : Option Value) (G' : sw_G) (I' : sw_I) (J' : sw_J), Qc r G' I' J' → AW l D cy sz own cc nL ret ini R mc ms Q (cells + mc2) (slots + ms2) G' I' J' (pc + 3) lv (r.toList ++ st)) : AW l D cy sz own cc nL ret ini R mc ms Q cells slots G I J pc lv st0 := by
  intro p e s m args below meth c H locs ls X hR hS hl
  obtain ⟨hx, hb9, hml, hr, hlk, hini, hown, hts, hK, hsz⟩ := id X
  obtain ⟨v1, v2, v3, v4, v5⟩ := hV
  have hB := callB_of (R := R) (own := own) (index := idx) n hts (sw_goodc v4) rfl hrm.1 hrm.2 (hts _ v3) (hts _ hlink) v5 hro
  refine sw_back (va_runV (As := As) (rest := st) (b := sz + b) (C := y.cls) ⟨hx, hb9, hml, hown, hts⟩ hM ⟨hB, hts _ v1, hts _ v2⟩ ⟨sw_blind, sw_recv hK hR hc h50 hb, fun U hU hW => ⟨rfl, by rw [hU]; exact Nat.le_trans hsz hS.1, by rw [hU]; exact hR, va_K.moved hW.alike hK⟩⟩ rfl hn hl.1 hst (lv_room (m := m) (pc := pc) (ls := ls) (rest := st0) hcat) d hf) hS (fun r G' I' J' H1 locs1 hq h1 h2 => ?_)
  exact kk r G' I' J' hq p e s m args below meth c H1 locs1 ls X h1 h2 hl
theorem aw_callS {y : MethodName} {bytes : ByteArray} {maxL idx n mc2 ms2 : Nat} {ret2 : Option FieldType} {rm : Room} {As : List Value} {Qc : Option Value → sw_G → sw_I → sw_J → Prop} (hV : sw_S y bytes maxL ret2 n)
    (hM : Met l y (Cond.code y bytes maxL ret2 :: sw_T) rm (sw_Pc D cy sz As G I J) (sw_Q D cy sz Qc) mc2 ms2 (fun q => sz ≤ q))
    (hlink : Cond.methodLink own idx y ∈ sw_T) (hn : As.length = n) (hst : st0 = As.reverse ++ st) (hcat : (st.map fun v => v.category).sum ≤ 8)
    (hrm : rm.cells = mc2 ∧ rm.slots = ms2) (hro : rm.frames + 1 ≤ R.frames ∧ 8 + (maxL + 11) + rm.locals ≤ R.locals) (hf : cells + mc2 ≤ R.cells ∧ slots + ms2 ≤ R.slots) (d : decode cc pc = .ok (.invokestatic idx, 3))
    (kk : ∀ (r : Option Value) (G' : sw_G) (I' : sw_I) (J' : sw_J), Qc r G' I' J' → AW l D cy sz own cc nL ret ini R mc ms Q (cells + mc2) (slots + ms2) G' I' J' (pc + 3) lv (r.toList ++ st)) : AW l D cy sz own cc nL ret ini R mc ms Q cells slots G I J pc lv st0 := by
  intro p e s m args below meth c H locs ls X hR hS hl
  obtain ⟨hx, hb9, hml, hr, hlk, hini, hown, hts, hK, hsz⟩ := id X
  obtain ⟨v1, v3, v4, v5⟩ := hV
  have hB := callB_of (R := R) (own := own) (index := idx) n hts (sw_goodc v4) rfl hrm.1 hrm.2 (hts _ v3) (hts _ hlink) v5 hro
  refine sw_back (va_runS (As := As) (rest := st) ⟨hx, hb9, hml, hown, hts⟩ hM ⟨hB, hts _ v1⟩ ⟨sw_blind, fun U hU hW => ⟨rfl, by rw [hU]; exact Nat.le_trans hsz hS.1, by rw [hU]; exact hR, va_K.moved hW.alike hK⟩⟩ rfl hn hl.1 hst (lv_room (m := m) (pc := pc) (ls := ls) (rest := st0) hcat) d hf) hS (fun r G' I' J' H1 locs1 hq h1 h2 => ?_)
  exact kk r G' I' J' hq p e s m args below meth c H1 locs1 ls X h1 h2 hl
theorem aw_callSN {y : MethodName} {host : String} {bytes : ByteArray} {maxL idx n mc2 ms2 : Nat} {ret2 : Option FieldType} {rm : Room} {As : List Value} {Qc : Option Value → sw_G → sw_I → sw_J → Prop} (hV : sw_S y bytes maxL ret2 n)
    (hM : Met l y (Cond.code y bytes maxL ret2 :: sw_T) rm (sw_Pc D cy sz As G I J) (sw_Q D cy sz Qc) mc2 ms2 (fun q => sz ≤ q))
    (hlink : Cond.methodLinkNest own idx y host ∈ sw_T) (hn : As.length = n) (hst : st0 = As.reverse ++ st) (hcat : (st.map fun v => v.category).sum ≤ 8)
    (hrm : rm.cells = mc2 ∧ rm.slots = ms2) (hro : rm.frames + 1 ≤ R.frames ∧ 8 + (maxL + 11) + rm.locals ≤ R.locals) (hf : cells + mc2 ≤ R.cells ∧ slots + ms2 ≤ R.slots) (d : decode cc pc = .ok (.invokestatic idx, 3))
    (kk : ∀ (r : Option Value) (G' : sw_G) (I' : sw_I) (J' : sw_J), Qc r G' I' J' → AW l D cy sz own cc nL ret ini R mc ms Q (cells + mc2) (slots + ms2) G' I' J' (pc + 3) lv (r.toList ++ st)) : AW l D cy sz own cc nL ret ini R mc ms Q cells slots G I J pc lv st0 := by
  intro p e s m args below meth c H locs ls X hR hS hl
  obtain ⟨hx, hb9, hml, hr, hlk, hini, hown, hts, hK, hsz⟩ := id X
  obtain ⟨v1, v3, v4, v5⟩ := hV
  have hB := va_cnB (R := R) (own := own) (host := host) (index := idx) n hts (sw_goodc v4) rfl hrm.1 hrm.2 (va_Nw.of rfl (hts _ hlink)) (hts _ v3) v5 hro
  refine sw_back (va_runSN (As := As) (rest := st) ⟨hx, hb9, hml, hown, hts⟩ hM ⟨hB, hts _ v1, trivial⟩ ⟨sw_blind, fun U hU hW => ⟨rfl, by rw [hU]; exact Nat.le_trans hsz hS.1, by rw [hU]; exact hR, va_K.moved hW.alike hK⟩⟩ rfl hn hl.1 hst (lv_room (m := m) (pc := pc) (ls := ls) (rest := st0) hcat) d hf) hS (fun r G' I' J' H1 locs1 hq h1 h2 => ?_)
  exact kk r G' I' J' hq p e s m args below meth c H1 locs1 ls X h1 h2 hl
/-- what comes back from a call that makes nothing -/
theorem aw_ki {Qk : Int32 → sw_I → sw_J → Prop} (h : ∀ x I' J', Qk x I' J' → AW l D cy sz own cc nL ret ini R mc ms Q cells slots G I' J' (pc + 3) lv (.int x :: st)) : ∀ (r : Option Value) (G' : sw_G) (I' : sw_I) (J' : sw_J), sw_qi G Qk r G' I' J' → AW l D cy sz own cc nL ret ini R mc ms Q (cells + 0) (slots + 0) G' I' J' (pc + 3) lv (r.toList ++ st) := by
  rintro r G' I' J' ⟨rfl, x, rfl, hq⟩
  exact h x I' J' hq
theorem aw_kl {Qk : Int64 → sw_I → sw_J → Prop} (h : ∀ x I' J', Qk x I' J' → AW l D cy sz own cc nL ret ini R mc ms Q cells slots G I' J' (pc + 3) lv (.long x :: st)) : ∀ (r : Option Value) (G' : sw_G) (I' : sw_I) (J' : sw_J), sw_ql G Qk r G' I' J' → AW l D cy sz own cc nL ret ini R mc ms Q (cells + 0) (slots + 0) G' I' J' (pc + 3) lv (r.toList ++ st) := by
  rintro r G' I' J' ⟨rfl, x, rfl, hq⟩
  exact h x I' J' hq
theorem aw_kv {Qk : sw_I → sw_J → Prop} (h : ∀ I' J', Qk I' J' → AW l D cy sz own cc nL ret ini R mc ms Q cells slots G I' J' (pc + 3) lv st) : ∀ (r : Option Value) (G' : sw_G) (I' : sw_I) (J' : sw_J), sw_qv G Qk r G' I' J' → AW l D cy sz own cc nL ret ini R mc ms Q (cells + 0) (slots + 0) G' I' J' (pc + 3) lv (r.toList ++ st) := by
  rintro r G' I' J' ⟨rfl, rfl, hq⟩
  exact h I' J' hq
end SWC
end
