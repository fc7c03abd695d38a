-- ===== PART A: goes FIRST, ahead of the names: the tables' words, and 'selects' of the private methods out of them =====
/-- a private method of a class that the tables say can be made, by its rows of tables_1 -/
def lw_okq (q : MethodName × Nat) : Prop := (q.1.cls ≠ "java/lang/invoke/MethodHandle" ∧ q.1.cls ≠ "java/lang/invoke/VarHandle") ∧ Cond.instantiable q.1.cls q.2 ∈ tables_1 ∧ Cond.privateMethod q.1 ∈ tables_1 ∧ Cond.instanceMethod q.1 ∈ tables_1
theorem lw_p0 : lw_okq (⟨"PrintRoom", "settingAt", "(I)I"⟩, 6) := ⟨⟨by decide +kernel, by decide +kernel⟩, List.mem_of_getElem? (i := 17) (by decide +kernel), List.mem_of_getElem? (i := 550) (by decide +kernel), List.mem_of_getElem? (i := 551) (by decide +kernel)⟩
theorem lw_p1 : lw_okq (⟨"PrintRoomModel", "records", "()V"⟩, 12) := ⟨⟨by decide +kernel, by decide +kernel⟩, List.mem_of_getElem? (i := 730) (by decide +kernel), List.mem_of_getElem? (i := 787) (by decide +kernel), List.mem_of_getElem? (i := 788) (by decide +kernel)⟩
theorem lw_p2 : lw_okq (⟨"PrintRoomModel", "sheetsOf", "(II)I"⟩, 12) := ⟨⟨by decide +kernel, by decide +kernel⟩, List.mem_of_getElem? (i := 730) (by decide +kernel), List.mem_of_getElem? (i := 802) (by decide +kernel), List.mem_of_getElem? (i := 803) (by decide +kernel)⟩
theorem lw_p3 : lw_okq (⟨"PrintRoomModel", "isOf", "(III)Z"⟩, 12) := ⟨⟨by decide +kernel, by decide +kernel⟩, List.mem_of_getElem? (i := 730) (by decide +kernel), List.mem_of_getElem? (i := 806) (by decide +kernel), List.mem_of_getElem? (i := 807) (by decide +kernel)⟩
theorem lw_p4 : lw_okq (⟨"PrintRoomModel", "puts", "(II)I"⟩, 12) := ⟨⟨by decide +kernel, by decide +kernel⟩, List.mem_of_getElem? (i := 730) (by decide +kernel), List.mem_of_getElem? (i := 814) (by decide +kernel), List.mem_of_getElem? (i := 815) (by decide +kernel)⟩
theorem lw_p5 : lw_okq (⟨"PrintRoomModel", "whyNot", "(III)I"⟩, 12) := ⟨⟨by decide +kernel, by decide +kernel⟩, List.mem_of_getElem? (i := 730) (by decide +kernel), List.mem_of_getElem? (i := 839) (by decide +kernel), List.mem_of_getElem? (i := 840) (by decide +kernel)⟩
theorem lw_p6 : lw_okq (⟨"PrintRoomModel", "comes", "(IIIII)I"⟩, 12) := ⟨⟨by decide +kernel, by decide +kernel⟩, List.mem_of_getElem? (i := 730) (by decide +kernel), List.mem_of_getElem? (i := 846) (by decide +kernel), List.mem_of_getElem? (i := 847) (by decide +kernel)⟩
theorem lw_p7 : lw_okq (⟨"PrintRoomModel", "placeOf", "(I)I"⟩, 12) := ⟨⟨by decide +kernel, by decide +kernel⟩, List.mem_of_getElem? (i := 730) (by decide +kernel), List.mem_of_getElem? (i := 861) (by decide +kernel), List.mem_of_getElem? (i := 862) (by decide +kernel)⟩
theorem lw_p8 : lw_okq (⟨"PrintRoomModel", "of", "(II)I"⟩, 12) := ⟨⟨by decide +kernel, by decide +kernel⟩, List.mem_of_getElem? (i := 730) (by decide +kernel), List.mem_of_getElem? (i := 865) (by decide +kernel), List.mem_of_getElem? (i := 866) (by decide +kernel)⟩
theorem lw_p9 : lw_okq (⟨"PrintRoomModel", "givesUp", "(I)V"⟩, 12) := ⟨⟨by decide +kernel, by decide +kernel⟩, List.mem_of_getElem? (i := 730) (by decide +kernel), List.mem_of_getElem? (i := 869) (by decide +kernel), List.mem_of_getElem? (i := 870) (by decide +kernel)⟩
theorem lw_p10 : lw_okq (⟨"PrintRoomModel", "endsWork", "()V"⟩, 12) := ⟨⟨by decide +kernel, by decide +kernel⟩, List.mem_of_getElem? (i := 730) (by decide +kernel), List.mem_of_getElem? (i := 873) (by decide +kernel), List.mem_of_getElem? (i := 874) (by decide +kernel)⟩
theorem lw_p11 : lw_okq (⟨"PrintRoomModel", "goesJob", "(I)V"⟩, 12) := ⟨⟨by decide +kernel, by decide +kernel⟩, List.mem_of_getElem? (i := 730) (by decide +kernel), List.mem_of_getElem? (i := 881) (by decide +kernel), List.mem_of_getElem? (i := 882) (by decide +kernel)⟩
theorem lw_p12 : lw_okq (⟨"PrintRoomModel", "tellJob", "(II)I"⟩, 12) := ⟨⟨by decide +kernel, by decide +kernel⟩, List.mem_of_getElem? (i := 730) (by decide +kernel), List.mem_of_getElem? (i := 893) (by decide +kernel), List.mem_of_getElem? (i := 894) (by decide +kernel)⟩
theorem lw_p13 : lw_okq (⟨"PrintRoomModel", "allSheets", "(I)I"⟩, 12) := ⟨⟨by decide +kernel, by decide +kernel⟩, List.mem_of_getElem? (i := 730) (by decide +kernel), List.mem_of_getElem? (i := 897) (by decide +kernel), List.mem_of_getElem? (i := 898) (by decide +kernel)⟩
theorem lw_p14 : lw_okq (⟨"PrintRoomModel", "setSheets", "(I)I"⟩, 12) := ⟨⟨by decide +kernel, by decide +kernel⟩, List.mem_of_getElem? (i := 730) (by decide +kernel), List.mem_of_getElem? (i := 901) (by decide +kernel), List.mem_of_getElem? (i := 902) (by decide +kernel)⟩
theorem lw_p15 : lw_okq (⟨"PrintRoomModel", "nextSheet", "(I)I"⟩, 12) := ⟨⟨by decide +kernel, by decide +kernel⟩, List.mem_of_getElem? (i := 730) (by decide +kernel), List.mem_of_getElem? (i := 905) (by decide +kernel), List.mem_of_getElem? (i := 906) (by decide +kernel)⟩
def lw_privs_1 : List (MethodName × Nat) := [(⟨"PrintRoom", "settingAt", "(I)I"⟩, 6), (⟨"PrintRoomModel", "records", "()V"⟩, 12), (⟨"PrintRoomModel", "sheetsOf", "(II)I"⟩, 12), (⟨"PrintRoomModel", "isOf", "(III)Z"⟩, 12), (⟨"PrintRoomModel", "puts", "(II)I"⟩, 12), (⟨"PrintRoomModel", "whyNot", "(III)I"⟩, 12), (⟨"PrintRoomModel", "comes", "(IIIII)I"⟩, 12), (⟨"PrintRoomModel", "placeOf", "(I)I"⟩, 12), (⟨"PrintRoomModel", "of", "(II)I"⟩, 12), (⟨"PrintRoomModel", "givesUp", "(I)V"⟩, 12), (⟨"PrintRoomModel", "endsWork", "()V"⟩, 12), (⟨"PrintRoomModel", "goesJob", "(I)V"⟩, 12), (⟨"PrintRoomModel", "tellJob", "(II)I"⟩, 12), (⟨"PrintRoomModel", "allSheets", "(I)I"⟩, 12), (⟨"PrintRoomModel", "setSheets", "(I)I"⟩, 12), (⟨"PrintRoomModel", "nextSheet", "(I)I"⟩, 12)]
theorem lw_r1 : ∀ q ∈ lw_privs_1, lw_okq q := List.forall_mem_cons.mpr ⟨lw_p0, List.forall_mem_cons.mpr ⟨lw_p1, List.forall_mem_cons.mpr ⟨lw_p2, List.forall_mem_cons.mpr ⟨lw_p3, List.forall_mem_cons.mpr ⟨lw_p4, List.forall_mem_cons.mpr ⟨lw_p5, List.forall_mem_cons.mpr ⟨lw_p6, List.forall_mem_cons.mpr ⟨lw_p7, List.forall_mem_cons.mpr ⟨lw_p8, List.forall_mem_cons.mpr ⟨lw_p9, List.forall_mem_cons.mpr ⟨lw_p10, List.forall_mem_cons.mpr ⟨lw_p11, List.forall_mem_cons.mpr ⟨lw_p12, List.forall_mem_cons.mpr ⟨lw_p13, List.forall_mem_cons.mpr ⟨lw_p14, List.forall_mem_cons.mpr ⟨lw_p15, fun _ h => absurd h List.not_mem_nil⟩⟩⟩⟩⟩⟩⟩⟩⟩⟩⟩⟩⟩⟩⟩⟩
theorem lw_p16 : lw_okq (⟨"PrintRoomModel", "isGathered", "(I)Z"⟩, 12) := ⟨⟨by decide +kernel, by decide +kernel⟩, List.mem_of_getElem? (i := 730) (by decide +kernel), List.mem_of_getElem? (i := 909) (by decide +kernel), List.mem_of_getElem? (i := 910) (by decide +kernel)⟩
theorem lw_p17 : lw_okq (⟨"PrintRoomModel", "nextCopy", "(I)I"⟩, 12) := ⟨⟨by decide +kernel, by decide +kernel⟩, List.mem_of_getElem? (i := 730) (by decide +kernel), List.mem_of_getElem? (i := 913) (by decide +kernel), List.mem_of_getElem? (i := 914) (by decide +kernel)⟩
theorem lw_p18 : lw_okq (⟨"PrintRoomModel", "isAhead", "(II)Z"⟩, 12) := ⟨⟨by decide +kernel, by decide +kernel⟩, List.mem_of_getElem? (i := 730) (by decide +kernel), List.mem_of_getElem? (i := 921) (by decide +kernel), List.mem_of_getElem? (i := 922) (by decide +kernel)⟩
theorem lw_p19 : lw_okq (⟨"PrintRoomModel", "begins", "()I"⟩, 12) := ⟨⟨by decide +kernel, by decide +kernel⟩, List.mem_of_getElem? (i := 730) (by decide +kernel), List.mem_of_getElem? (i := 930) (by decide +kernel), List.mem_of_getElem? (i := 931) (by decide +kernel)⟩
theorem lw_p20 : lw_okq (⟨"PrintRoomModel", "nextJob", "()I"⟩, 12) := ⟨⟨by decide +kernel, by decide +kernel⟩, List.mem_of_getElem? (i := 730) (by decide +kernel), List.mem_of_getElem? (i := 934) (by decide +kernel), List.mem_of_getElem? (i := 935) (by decide +kernel)⟩
theorem lw_p21 : lw_okq (⟨"PrintRoomModel", "whyStop", "(I)I"⟩, 12) := ⟨⟨by decide +kernel, by decide +kernel⟩, List.mem_of_getElem? (i := 730) (by decide +kernel), List.mem_of_getElem? (i := 938) (by decide +kernel), List.mem_of_getElem? (i := 939) (by decide +kernel)⟩
theorem lw_p22 : lw_okq (⟨"PrintRoomModel", "hasSet", "(I)Z"⟩, 12) := ⟨⟨by decide +kernel, by decide +kernel⟩, List.mem_of_getElem? (i := 730) (by decide +kernel), List.mem_of_getElem? (i := 942) (by decide +kernel), List.mem_of_getElem? (i := 943) (by decide +kernel)⟩
theorem lw_p23 : lw_okq (⟨"PrintRoomModel", "staplesOf", "(I)I"⟩, 12) := ⟨⟨by decide +kernel, by decide +kernel⟩, List.mem_of_getElem? (i := 730) (by decide +kernel), List.mem_of_getElem? (i := 946) (by decide +kernel), List.mem_of_getElem? (i := 947) (by decide +kernel)⟩
theorem lw_p24 : lw_okq (⟨"PrintRoomModel", "stapled", "(I)V"⟩, 12) := ⟨⟨by decide +kernel, by decide +kernel⟩, List.mem_of_getElem? (i := 730) (by decide +kernel), List.mem_of_getElem? (i := 950) (by decide +kernel), List.mem_of_getElem? (i := 951) (by decide +kernel)⟩
theorem lw_p25 : lw_okq (⟨"PrintRoomModel", "leaves", "(I)V"⟩, 12) := ⟨⟨by decide +kernel, by decide +kernel⟩, List.mem_of_getElem? (i := 730) (by decide +kernel), List.mem_of_getElem? (i := 954) (by decide +kernel), List.mem_of_getElem? (i := 955) (by decide +kernel)⟩
theorem lw_p26 : lw_okq (⟨"PrintRoomModel", "beginsSheet", "(I)V"⟩, 12) := ⟨⟨by decide +kernel, by decide +kernel⟩, List.mem_of_getElem? (i := 730) (by decide +kernel), List.mem_of_getElem? (i := 958) (by decide +kernel), List.mem_of_getElem? (i := 959) (by decide +kernel)⟩
theorem lw_p27 : lw_okq (⟨"PrintRoomModel", "takesPaper", "(II)V"⟩, 12) := ⟨⟨by decide +kernel, by decide +kernel⟩, List.mem_of_getElem? (i := 730) (by decide +kernel), List.mem_of_getElem? (i := 962) (by decide +kernel), List.mem_of_getElem? (i := 963) (by decide +kernel)⟩
theorem lw_p28 : lw_okq (⟨"PrintRoomModel", "sides", "(I)I"⟩, 12) := ⟨⟨by decide +kernel, by decide +kernel⟩, List.mem_of_getElem? (i := 730) (by decide +kernel), List.mem_of_getElem? (i := 966) (by decide +kernel), List.mem_of_getElem? (i := 967) (by decide +kernel)⟩
theorem lw_p29 : lw_okq (⟨"PrintRoomModel", "goesBy", "(II)I"⟩, 12) := ⟨⟨by decide +kernel, by decide +kernel⟩, List.mem_of_getElem? (i := 730) (by decide +kernel), List.mem_of_getElem? (i := 970) (by decide +kernel), List.mem_of_getElem? (i := 971) (by decide +kernel)⟩
theorem lw_p30 : lw_okq (⟨"PrintRoomModel", "finishes", "()V"⟩, 12) := ⟨⟨by decide +kernel, by decide +kernel⟩, List.mem_of_getElem? (i := 730) (by decide +kernel), List.mem_of_getElem? (i := 974) (by decide +kernel), List.mem_of_getElem? (i := 975) (by decide +kernel)⟩
theorem lw_p31 : lw_okq (⟨"PrintRoomModel", "keeps", "()V"⟩, 12) := ⟨⟨by decide +kernel, by decide +kernel⟩, List.mem_of_getElem? (i := 730) (by decide +kernel), List.mem_of_getElem? (i := 982) (by decide +kernel), List.mem_of_getElem? (i := 983) (by decide +kernel)⟩
def lw_privs_2 : List (MethodName × Nat) := [(⟨"PrintRoomModel", "isGathered", "(I)Z"⟩, 12), (⟨"PrintRoomModel", "nextCopy", "(I)I"⟩, 12), (⟨"PrintRoomModel", "isAhead", "(II)Z"⟩, 12), (⟨"PrintRoomModel", "begins", "()I"⟩, 12), (⟨"PrintRoomModel", "nextJob", "()I"⟩, 12), (⟨"PrintRoomModel", "whyStop", "(I)I"⟩, 12), (⟨"PrintRoomModel", "hasSet", "(I)Z"⟩, 12), (⟨"PrintRoomModel", "staplesOf", "(I)I"⟩, 12), (⟨"PrintRoomModel", "stapled", "(I)V"⟩, 12), (⟨"PrintRoomModel", "leaves", "(I)V"⟩, 12), (⟨"PrintRoomModel", "beginsSheet", "(I)V"⟩, 12), (⟨"PrintRoomModel", "takesPaper", "(II)V"⟩, 12), (⟨"PrintRoomModel", "sides", "(I)I"⟩, 12), (⟨"PrintRoomModel", "goesBy", "(II)I"⟩, 12), (⟨"PrintRoomModel", "finishes", "()V"⟩, 12), (⟨"PrintRoomModel", "keeps", "()V"⟩, 12)]
theorem lw_r2 : ∀ q ∈ lw_privs_2, lw_okq q := List.forall_mem_cons.mpr ⟨lw_p16, List.forall_mem_cons.mpr ⟨lw_p17, List.forall_mem_cons.mpr ⟨lw_p18, List.forall_mem_cons.mpr ⟨lw_p19, List.forall_mem_cons.mpr ⟨lw_p20, List.forall_mem_cons.mpr ⟨lw_p21, List.forall_mem_cons.mpr ⟨lw_p22, List.forall_mem_cons.mpr ⟨lw_p23, List.forall_mem_cons.mpr ⟨lw_p24, List.forall_mem_cons.mpr ⟨lw_p25, List.forall_mem_cons.mpr ⟨lw_p26, List.forall_mem_cons.mpr ⟨lw_p27, List.forall_mem_cons.mpr ⟨lw_p28, List.forall_mem_cons.mpr ⟨lw_p29, List.forall_mem_cons.mpr ⟨lw_p30, List.forall_mem_cons.mpr ⟨lw_p31, fun _ h => absurd h List.not_mem_nil⟩⟩⟩⟩⟩⟩⟩⟩⟩⟩⟩⟩⟩⟩⟩⟩
theorem lw_p32 : lw_okq (⟨"PrintRoomModel", "takesBack", "()V"⟩, 12) := ⟨⟨by decide +kernel, by decide +kernel⟩, List.mem_of_getElem? (i := 730) (by decide +kernel), List.mem_of_getElem? (i := 986) (by decide +kernel), List.mem_of_getElem? (i := 987) (by decide +kernel)⟩
theorem lw_p33 : lw_okq (⟨"PrintRoomModel", "heldOnes", "()I"⟩, 12) := ⟨⟨by decide +kernel, by decide +kernel⟩, List.mem_of_getElem? (i := 730) (by decide +kernel), List.mem_of_getElem? (i := 994) (by decide +kernel), List.mem_of_getElem? (i := 995) (by decide +kernel)⟩
theorem lw_p34 : lw_okq (⟨"PrintRoomModel", "hasFault", "()Z"⟩, 12) := ⟨⟨by decide +kernel, by decide +kernel⟩, List.mem_of_getElem? (i := 730) (by decide +kernel), List.mem_of_getElem? (i := 1026) (by decide +kernel), List.mem_of_getElem? (i := 1027) (by decide +kernel)⟩
theorem lw_p35 : lw_okq (⟨"PrintRoomModel", "takesJob", "()Z"⟩, 12) := ⟨⟨by decide +kernel, by decide +kernel⟩, List.mem_of_getElem? (i := 730) (by decide +kernel), List.mem_of_getElem? (i := 1030) (by decide +kernel), List.mem_of_getElem? (i := 1031) (by decide +kernel)⟩
theorem lw_p36 : lw_okq (⟨"PrintRoomModel", "takesNumber", "(II)Z"⟩, 12) := ⟨⟨by decide +kernel, by decide +kernel⟩, List.mem_of_getElem? (i := 730) (by decide +kernel), List.mem_of_getElem? (i := 1034) (by decide +kernel), List.mem_of_getElem? (i := 1035) (by decide +kernel)⟩
theorem lw_p37 : lw_okq (⟨"PrintRoomModel", "takes", "(I)Z"⟩, 12) := ⟨⟨by decide +kernel, by decide +kernel⟩, List.mem_of_getElem? (i := 730) (by decide +kernel), List.mem_of_getElem? (i := 1038) (by decide +kernel), List.mem_of_getElem? (i := 1039) (by decide +kernel)⟩
theorem lw_p38 : lw_okq (⟨"PrintRoomModel", "isAt", "(I)Z"⟩, 12) := ⟨⟨by decide +kernel, by decide +kernel⟩, List.mem_of_getElem? (i := 730) (by decide +kernel), List.mem_of_getElem? (i := 1042) (by decide +kernel), List.mem_of_getElem? (i := 1043) (by decide +kernel)⟩
theorem lw_p39 : lw_okq (⟨"PrintRoomModel", "takesOption", "(I)Z"⟩, 12) := ⟨⟨by decide +kernel, by decide +kernel⟩, List.mem_of_getElem? (i := 730) (by decide +kernel), List.mem_of_getElem? (i := 1046) (by decide +kernel), List.mem_of_getElem? (i := 1047) (by decide +kernel)⟩
theorem lw_p40 : lw_okq (⟨"PrintRoomModel", "takesWord", "(I)Z"⟩, 12) := ⟨⟨by decide +kernel, by decide +kernel⟩, List.mem_of_getElem? (i := 730) (by decide +kernel), List.mem_of_getElem? (i := 1050) (by decide +kernel), List.mem_of_getElem? (i := 1051) (by decide +kernel)⟩
theorem lw_p41 : lw_okq (⟨"PrintRoomModel", "takesSize", "()Z"⟩, 12) := ⟨⟨by decide +kernel, by decide +kernel⟩, List.mem_of_getElem? (i := 730) (by decide +kernel), List.mem_of_getElem? (i := 1067) (by decide +kernel), List.mem_of_getElem? (i := 1068) (by decide +kernel)⟩
theorem lw_p42 : lw_okq (⟨"PrintRoomModel", "takesKind", "()Z"⟩, 12) := ⟨⟨by decide +kernel, by decide +kernel⟩, List.mem_of_getElem? (i := 730) (by decide +kernel), List.mem_of_getElem? (i := 1071) (by decide +kernel), List.mem_of_getElem? (i := 1072) (by decide +kernel)⟩
def lw_privs_3 : List (MethodName × Nat) := [(⟨"PrintRoomModel", "takesBack", "()V"⟩, 12), (⟨"PrintRoomModel", "heldOnes", "()I"⟩, 12), (⟨"PrintRoomModel", "hasFault", "()Z"⟩, 12), (⟨"PrintRoomModel", "takesJob", "()Z"⟩, 12), (⟨"PrintRoomModel", "takesNumber", "(II)Z"⟩, 12), (⟨"PrintRoomModel", "takes", "(I)Z"⟩, 12), (⟨"PrintRoomModel", "isAt", "(I)Z"⟩, 12), (⟨"PrintRoomModel", "takesOption", "(I)Z"⟩, 12), (⟨"PrintRoomModel", "takesWord", "(I)Z"⟩, 12), (⟨"PrintRoomModel", "takesSize", "()Z"⟩, 12), (⟨"PrintRoomModel", "takesKind", "()Z"⟩, 12)]
theorem lw_r3 : ∀ q ∈ lw_privs_3, lw_okq q := List.forall_mem_cons.mpr ⟨lw_p32, List.forall_mem_cons.mpr ⟨lw_p33, List.forall_mem_cons.mpr ⟨lw_p34, List.forall_mem_cons.mpr ⟨lw_p35, List.forall_mem_cons.mpr ⟨lw_p36, List.forall_mem_cons.mpr ⟨lw_p37, List.forall_mem_cons.mpr ⟨lw_p38, List.forall_mem_cons.mpr ⟨lw_p39, List.forall_mem_cons.mpr ⟨lw_p40, List.forall_mem_cons.mpr ⟨lw_p41, List.forall_mem_cons.mpr ⟨lw_p42, fun _ h => absurd h List.not_mem_nil⟩⟩⟩⟩⟩⟩⟩⟩⟩⟩⟩
def lw_privs : List (MethodName × Nat) := lw_privs_1 ++ (lw_privs_2 ++ (lw_privs_3))
def lw_tbl : List Cond := k2_sels lw_privs ++ tables_1
theorem lw_privs_ok : ∀ q ∈ lw_privs, lw_okq q := by
  show ∀ q ∈ lw_privs_1 ++ (lw_privs_2 ++ (lw_privs_3)), lw_okq q
  exact List.forall_mem_append.mpr ⟨lw_r1, List.forall_mem_append.mpr ⟨lw_r2, lw_r3⟩⟩
/-! ===== BEGIN words of one list among another's, by their places ===== -/
theorem goodIn_r {big : List Cond} (ws : List Cond) (ps : List Nat) (hp : ws = ps.filterMap (fun i => big[i]?)) (h : ws.all goodWord = true) : GoodIn big ws := by
  intro w hw
  have h1 := List.all_eq_true.mp h w hw
  rw [hp] at hw
  obtain ⟨i, -, hi⟩ := List.mem_filterMap.mp hw
  have hm : w ∈ big := by first | exact List.mem_of_getElem? hi | exact List.getElem?_mem hi
  exact ⟨hm, good_of_word h1⟩
theorem goodIn_app {big a b : List Cond} (ha : GoodIn big a) (hb : GoodIn big b) : GoodIn big (a ++ b) := fun w h => (List.mem_append.mp h).elim (ha w) (hb w)
theorem goodIn_ca {big a b : List Cond} {c : Cond} (ha : GoodIn big (c :: a)) (hb : GoodIn big b) : GoodIn big (c :: (a ++ b)) := fun w h => (List.mem_cons.mp h).elim (fun e => ha w (List.mem_cons.mpr (Or.inl e))) (fun h => (List.mem_append.mp h).elim (fun h => ha w (List.mem_cons.mpr (Or.inr h))) (hb w))
theorem goodIn_sub {big ws : List Cond} (hm : ∀ w ∈ ws, w ∈ big) (h : ws.all goodWord = true) : GoodIn big ws := fun w hw => ⟨hm w hw, good_of_word (List.all_eq_true.mp h w hw)⟩
/-! ===== END ===== -/

/-! ===== BEGIN printed: names, fields, word lists, decode rows ===== -/
def RX0 : String := "PrintRoom$History"
def TX0 : u_T := fun k => match k with
  | 0 => ("PrintRoom$History", "rows", "[LPrintRoom$Machine;", true)
  | _ => ("PrintRoom$History", "states", "I", false)
def tyX0 : Nat → FieldType := fun k => match k with
  | 0 => .array (.object "PrintRoom$Machine")
  | _ => .int
theorem nmX0 : ∀ a, a < 2 → ∀ b, b < 2 → a ≠ b → (TX0 a).2.1 ≠ (TX0 b).2.1 := by decide +kernel
theorem tyX0_ok : ∀ k, k < 2 → parseFieldDescriptor (TX0 k).2.2.1 = some (tyX0 k) := by decide +kernel
abbrev cX0_init : ByteArray := prog_2_method_1_code
def yX0_init : MethodName := ⟨RX0, "<init>", "()V"⟩
abbrev cX0_keep : ByteArray := prog_2_method_2_code
def yX0_keep : MethodName := ⟨RX0, "keep", "(LPrintRoom$Machine;)V"⟩
abbrev cX0_dropOldest : ByteArray := prog_2_method_3_code
def yX0_dropOldest : MethodName := ⟨RX0, "dropOldest", "()V"⟩
abbrev cX0_restore : ByteArray := prog_2_method_4_code
def yX0_restore : MethodName := ⟨RX0, "restore", "(LPrintRoom$Machine;)Z"⟩
def RX1 : String := "PrintRoom$Job"
def TX1 : u_T := fun k => match k with
  | 0 => ("PrintRoom$Job", "number", "I", false)
  | 1 => ("PrintRoom$Job", "pages", "I", false)
  | 2 => ("PrintRoom$Job", "copies", "I", false)
  | 3 => ("PrintRoom$Job", "size", "I", false)
  | 4 => ("PrintRoom$Job", "kind", "I", false)
  | 5 => ("PrintRoom$Job", "how", "I", false)
  | 6 => ("PrintRoom$Job", "onBothSides", "Z", false)
  | 7 => ("PrintRoom$Job", "gathered", "Z", false)
  | 8 => ("PrintRoom$Job", "staplesOfSet", "I", false)
  | 9 => ("PrintRoom$Job", "sheetsOfSet", "I", false)
  | 10 => ("PrintRoom$Job", "sheetsInAll", "I", false)
  | 11 => ("PrintRoom$Job", "priority", "I", false)
  | 12 => ("PrintRoom$Job", "held", "Z", false)
  | 13 => ("PrintRoom$Job", "printed", "I", false)
  | _ => ("PrintRoom$Job", "stapledSets", "I", false)
def tyX1 : Nat → FieldType := fun k => match k with
  | 0 => .int
  | 1 => .int
  | 2 => .int
  | 3 => .int
  | 4 => .int
  | 5 => .int
  | 6 => .boolean
  | 7 => .boolean
  | 8 => .int
  | 9 => .int
  | 10 => .int
  | 11 => .int
  | 12 => .boolean
  | 13 => .int
  | _ => .int
theorem nmX1 : ∀ a, a < 15 → ∀ b, b < 15 → a ≠ b → (TX1 a).2.1 ≠ (TX1 b).2.1 := by decide +kernel
theorem tyX1_ok : ∀ k, k < 15 → parseFieldDescriptor (TX1 k).2.2.1 = some (tyX1 k) := by decide +kernel
abbrev cX1_init : ByteArray := prog_3_method_1_code
def yX1_init : MethodName := ⟨RX1, "<init>", "()V"⟩
abbrev cX1_describe : ByteArray := prog_3_method_2_code
def yX1_describe : MethodName := ⟨RX1, "describe", "(IIIII)V"⟩
abbrev cX1_copyFrom : ByteArray := prog_3_method_3_code
def yX1_copyFrom : MethodName := ⟨RX1, "copyFrom", "(LPrintRoom$Job;)V"⟩
abbrev cX1_isInRange : ByteArray := prog_3_method_4_code
def yX1_isInRange : MethodName := ⟨RX1, "isInRange", "()Z"⟩
abbrev cX1_isOn : ByteArray := prog_3_method_5_code
def yX1_isOn : MethodName := ⟨RX1, "isOn", "(II)Z"⟩
abbrev cX1_staplingRefusal : ByteArray := prog_3_method_6_code
def yX1_staplingRefusal : MethodName := ⟨RX1, "staplingRefusal", "(I)I"⟩
abbrev cX1_hasSetToStaple : ByteArray := prog_3_method_7_code
def yX1_hasSetToStaple : MethodName := ⟨RX1, "hasSetToStaple", "()Z"⟩
abbrev cX1_isFinished : ByteArray := prog_3_method_8_code
def yX1_isFinished : MethodName := ⟨RX1, "isFinished", "()Z"⟩
abbrev cX1_nextSheet : ByteArray := prog_3_method_9_code
def yX1_nextSheet : MethodName := ⟨RX1, "nextSheet", "()I"⟩
abbrev cX1_nextCopy : ByteArray := prog_3_method_10_code
def yX1_nextCopy : MethodName := ⟨RX1, "nextCopy", "()I"⟩
abbrev cX1_sidesOfNextSheet : ByteArray := prog_3_method_11_code
def yX1_sidesOfNextSheet : MethodName := ⟨RX1, "sidesOfNextSheet", "()I"⟩
abbrev cX1_property : ByteArray := prog_3_method_12_code
def yX1_property : MethodName := ⟨RX1, "property", "(I)I"⟩
def RX2 : String := "PrintRoom$JobText"
def TX2 : u_T := fun k => match k with
  | 0 => ("PrintRoom$JobText", "signs", "[C", true)
  | 1 => ("PrintRoom$JobText", "length", "I", false)
  | 2 => ("PrintRoom$JobText", "place", "I", false)
  | 3 => ("PrintRoom$JobText", "jobs", "I", false)
  | 4 => ("PrintRoom$JobText", "faultPlace", "I", false)
  | _ => ("PrintRoom$JobText", "faultReason", "I", false)
def tyX2 : Nat → FieldType := fun k => match k with
  | 0 => .array .char
  | 1 => .int
  | 2 => .int
  | 3 => .int
  | 4 => .int
  | _ => .int
theorem nmX2 : ∀ a, a < 6 → ∀ b, b < 6 → a ≠ b → (TX2 a).2.1 ≠ (TX2 b).2.1 := by decide +kernel
theorem tyX2_ok : ∀ k, k < 6 → parseFieldDescriptor (TX2 k).2.2.1 = some (tyX2 k) := by decide +kernel
abbrev cX2_init : ByteArray := prog_4_method_1_code
def yX2_init : MethodName := ⟨RX2, "<init>", "()V"⟩
abbrev cX2_append : ByteArray := prog_4_method_2_code
def yX2_append : MethodName := ⟨RX2, "append", "(C)V"⟩
abbrev cX2_examine : ByteArray := prog_4_method_3_code
def yX2_examine : MethodName := ⟨RX2, "examine", "(LPrintRoom$Job;LPrintRoom$Machine;)V"⟩
abbrev cX2_reasonOfNext : ByteArray := prog_4_method_4_code
def yX2_reasonOfNext : MethodName := ⟨RX2, "reasonOfNext", "(LPrintRoom$Job;II)I"⟩
abbrev cX2_readJob : ByteArray := prog_4_method_5_code
def yX2_readJob : MethodName := ⟨RX2, "readJob", "(LPrintRoom$Job;)Z"⟩
abbrev cX2_readNumber : ByteArray := prog_4_method_6_code
def yX2_readNumber : MethodName := ⟨RX2, "readNumber", "(Ljava/lang/String;)I"⟩
abbrev cX2_digitAtPlace : ByteArray := prog_4_method_7_code
def yX2_digitAtPlace : MethodName := ⟨RX2, "digitAtPlace", "()I"⟩
abbrev cX2_readHow : ByteArray := prog_4_method_8_code
def yX2_readHow : MethodName := ⟨RX2, "readHow", "()I"⟩
abbrev cX2_readSize : ByteArray := prog_4_method_9_code
def yX2_readSize : MethodName := ⟨RX2, "readSize", "()I"⟩
abbrev cX2_readKind : ByteArray := prog_4_method_10_code
def yX2_readKind : MethodName := ⟨RX2, "readKind", "()I"⟩
abbrev cX2_sizeWord : ByteArray := prog_4_method_11_code
def yX2_sizeWord : MethodName := ⟨RX2, "sizeWord", "(I)Ljava/lang/String;"⟩
abbrev cX2_kindWord : ByteArray := prog_4_method_12_code
def yX2_kindWord : MethodName := ⟨RX2, "kindWord", "(I)Ljava/lang/String;"⟩
abbrev cX2_skips : ByteArray := prog_4_method_13_code
def yX2_skips : MethodName := ⟨RX2, "skips", "(Ljava/lang/String;)Z"⟩
def RX3 : String := "PrintRoom$Ledger"
def TX3 : u_T := fun k => match k with
  | 0 => ("PrintRoom$Ledger", "accounts", "[I", true)
  | 1 => ("PrintRoom$Ledger", "paperSizes", "[I", true)
  | 2 => ("PrintRoom$Ledger", "paperKinds", "[I", true)
  | 3 => ("PrintRoom$Ledger", "paperSheets", "[I", true)
  | 4 => ("PrintRoom$Ledger", "papers", "I", false)
  | _ => ("PrintRoom$Ledger", "finishedSheets", "I", false)
def tyX3 : Nat → FieldType := fun k => match k with
  | 0 => .array .int
  | 1 => .array .int
  | 2 => .array .int
  | 3 => .array .int
  | 4 => .int
  | _ => .int
theorem nmX3 : ∀ a, a < 6 → ∀ b, b < 6 → a ≠ b → (TX3 a).2.1 ≠ (TX3 b).2.1 := by decide +kernel
theorem tyX3_ok : ∀ k, k < 6 → parseFieldDescriptor (TX3 k).2.2.1 = some (tyX3 k) := by decide +kernel
abbrev cX3_init : ByteArray := prog_5_method_1_code
def yX3_init : MethodName := ⟨RX3, "<init>", "()V"⟩
abbrev cX3_copyFrom : ByteArray := prog_5_method_2_code
def yX3_copyFrom : MethodName := ⟨RX3, "copyFrom", "(LPrintRoom$Ledger;)V"⟩
abbrev cX3_add : ByteArray := prog_5_method_3_code
def yX3_add : MethodName := ⟨RX3, "add", "(II)V"⟩
abbrev cX3_addTakenSheet : ByteArray := prog_5_method_4_code
def yX3_addTakenSheet : MethodName := ⟨RX3, "addTakenSheet", "(II)V"⟩
def RX4 : String := "PrintRoom$Machine"
def TX4 : u_T := fun k => match k with
  | 0 => ("PrintRoom$Machine", "trays", "LPrintRoom$Trays;", true)
  | 1 => ("PrintRoom$Machine", "queue", "LPrintRoom$Queue;", true)
  | 2 => ("PrintRoom$Machine", "ledger", "LPrintRoom$Ledger;", true)
  | 3 => ("PrintRoom$Machine", "settings", "[I", true)
  | 4 => ("PrintRoom$Machine", "staplesLeft", "I", false)
  | 5 => ("PrintRoom$Machine", "bin", "I", false)
  | 6 => ("PrintRoom$Machine", "work", "I", false)
  | 7 => ("PrintRoom$Machine", "workJob", "I", false)
  | _ => ("PrintRoom$Machine", "workTicks", "I", false)
def tyX4 : Nat → FieldType := fun k => match k with
  | 0 => .object "PrintRoom$Trays"
  | 1 => .object "PrintRoom$Queue"
  | 2 => .object "PrintRoom$Ledger"
  | 3 => .array .int
  | 4 => .int
  | 5 => .int
  | 6 => .int
  | 7 => .int
  | _ => .int
theorem nmX4 : ∀ a, a < 9 → ∀ b, b < 9 → a ≠ b → (TX4 a).2.1 ≠ (TX4 b).2.1 := by decide +kernel
theorem tyX4_ok : ∀ k, k < 9 → parseFieldDescriptor (TX4 k).2.2.1 = some (tyX4 k) := by decide +kernel
abbrev cX4_init : ByteArray := prog_6_method_1_code
def yX4_init : MethodName := ⟨RX4, "<init>", "()V"⟩
abbrev cX4_copyFrom : ByteArray := prog_6_method_2_code
def yX4_copyFrom : MethodName := ⟨RX4, "copyFrom", "(LPrintRoom$Machine;)V"⟩
abbrev cX4_letGoBy : ByteArray := prog_6_method_3_code
def yX4_letGoBy : MethodName := ⟨RX4, "letGoBy", "(I)V"⟩
abbrev cX4_ticksUntilGone : ByteArray := prog_6_method_4_code
def yX4_ticksUntilGone : MethodName := ⟨RX4, "ticksUntilGone", "(I)I"⟩
abbrev cX4_findWork : ByteArray := prog_6_method_5_code
def yX4_findWork : MethodName := ⟨RX4, "findWork", "()I"⟩
abbrev cX4_stopReason : ByteArray := prog_6_method_6_code
def yX4_stopReason : MethodName := ⟨RX4, "stopReason", "(LPrintRoom$Job;)I"⟩
abbrev cX4_beginSheet : ByteArray := prog_6_method_7_code
def yX4_beginSheet : MethodName := ⟨RX4, "beginSheet", "(LPrintRoom$Job;)V"⟩
abbrev cX4_beginStapling : ByteArray := prog_6_method_8_code
def yX4_beginStapling : MethodName := ⟨RX4, "beginStapling", "(LPrintRoom$Job;)V"⟩
abbrev cX4_goOnWorking : ByteArray := prog_6_method_9_code
def yX4_goOnWorking : MethodName := ⟨RX4, "goOnWorking", "(I)I"⟩
abbrev cX4_finishWork : ByteArray := prog_6_method_10_code
def yX4_finishWork : MethodName := ⟨RX4, "finishWork", "()V"⟩
abbrev cX4_finishSheet : ByteArray := prog_6_method_11_code
def yX4_finishSheet : MethodName := ⟨RX4, "finishSheet", "(LPrintRoom$Job;)V"⟩
abbrev cX4_finishStapling : ByteArray := prog_6_method_12_code
def yX4_finishStapling : MethodName := ⟨RX4, "finishStapling", "(LPrintRoom$Job;)V"⟩
abbrev cX4_removeIfFinished : ByteArray := prog_6_method_13_code
def yX4_removeIfFinished : MethodName := ⟨RX4, "removeIfFinished", "(LPrintRoom$Job;)V"⟩
abbrev cX4_interrupt : ByteArray := prog_6_method_14_code
def yX4_interrupt : MethodName := ⟨RX4, "interrupt", "(LPrintRoom$Job;)V"⟩
abbrev cX4_giveUpWorkOf : ByteArray := prog_6_method_15_code
def yX4_giveUpWorkOf : MethodName := ⟨RX4, "giveUpWorkOf", "(I)V"⟩
abbrev cX4_lackingSheets : ByteArray := prog_6_method_16_code
def yX4_lackingSheets : MethodName := ⟨RX4, "lackingSheets", "(II)I"⟩
def RX5 : String := "PrintRoom$Queue"
def TX5 : u_T := fun k => match k with
  | 0 => ("PrintRoom$Queue", "jobs", "[LPrintRoom$Job;", true)
  | 1 => ("PrintRoom$Queue", "size", "I", false)
  | 2 => ("PrintRoom$Queue", "nextNumber", "I", false)
  | _ => ("PrintRoom$Queue", "latest", "I", false)
def tyX5 : Nat → FieldType := fun k => match k with
  | 0 => .array (.object "PrintRoom$Job")
  | 1 => .int
  | 2 => .int
  | _ => .int
theorem nmX5 : ∀ a, a < 4 → ∀ b, b < 4 → a ≠ b → (TX5 a).2.1 ≠ (TX5 b).2.1 := by decide +kernel
theorem tyX5_ok : ∀ k, k < 4 → parseFieldDescriptor (TX5 k).2.2.1 = some (tyX5 k) := by decide +kernel
abbrev cX5_init : ByteArray := prog_7_method_1_code
def yX5_init : MethodName := ⟨RX5, "<init>", "()V"⟩
abbrev cX5_copyFrom : ByteArray := prog_7_method_2_code
def yX5_copyFrom : MethodName := ⟨RX5, "copyFrom", "(LPrintRoom$Queue;)V"⟩
abbrev cX5_room : ByteArray := prog_7_method_3_code
def yX5_room : MethodName := ⟨RX5, "room", "()I"⟩
abbrev cX5_append : ByteArray := prog_7_method_4_code
def yX5_append : MethodName := ⟨RX5, "append", "(LPrintRoom$Job;)I"⟩
abbrev cX5_find : ByteArray := prog_7_method_5_code
def yX5_find : MethodName := ⟨RX5, "find", "(I)LPrintRoom$Job;"⟩
abbrev cX5_remove : ByteArray := prog_7_method_6_code
def yX5_remove : MethodName := ⟨RX5, "remove", "(LPrintRoom$Job;)V"⟩
abbrev cX5_heldJobs : ByteArray := prog_7_method_7_code
def yX5_heldJobs : MethodName := ⟨RX5, "heldJobs", "()I"⟩
abbrev cX5_isAhead : ByteArray := prog_7_method_8_code
def yX5_isAhead : MethodName := ⟨RX5, "isAhead", "(LPrintRoom$Job;LPrintRoom$Job;)Z"⟩
abbrev cX5_jobsAheadOf : ByteArray := prog_7_method_9_code
def yX5_jobsAheadOf : MethodName := ⟨RX5, "jobsAheadOf", "(LPrintRoom$Job;)I"⟩
abbrev cX5_at : ByteArray := prog_7_method_10_code
def yX5_at : MethodName := ⟨RX5, "at", "(I)LPrintRoom$Job;"⟩
abbrev cX5_next : ByteArray := prog_7_method_11_code
def yX5_next : MethodName := ⟨RX5, "next", "()LPrintRoom$Job;"⟩
abbrev cX5_sheetsToPrint : ByteArray := prog_7_method_12_code
def yX5_sheetsToPrint : MethodName := ⟨RX5, "sheetsToPrint", "(II)I"⟩
def RX6 : String := "PrintRoom$Trays"
def TX6 : u_T := fun k => match k with
  | 0 => ("PrintRoom$Trays", "sizes", "[I", true)
  | 1 => ("PrintRoom$Trays", "kinds", "[I", true)
  | _ => ("PrintRoom$Trays", "sheets", "[I", true)
def tyX6 : Nat → FieldType := fun k => match k with
  | 0 => .array .int
  | 1 => .array .int
  | _ => .array .int
theorem nmX6 : ∀ a, a < 3 → ∀ b, b < 3 → a ≠ b → (TX6 a).2.1 ≠ (TX6 b).2.1 := by decide +kernel
theorem tyX6_ok : ∀ k, k < 3 → parseFieldDescriptor (TX6 k).2.2.1 = some (tyX6 k) := by decide +kernel
abbrev cX6_init : ByteArray := prog_8_method_1_code
def yX6_init : MethodName := ⟨RX6, "<init>", "()V"⟩
abbrev cX6_copyFrom : ByteArray := prog_8_method_2_code
def yX6_copyFrom : MethodName := ⟨RX6, "copyFrom", "(LPrintRoom$Trays;)V"⟩
abbrev cX6_change : ByteArray := prog_8_method_3_code
def yX6_change : MethodName := ⟨RX6, "change", "(III)I"⟩
abbrev cX6_sheetsOf : ByteArray := prog_8_method_4_code
def yX6_sheetsOf : MethodName := ⟨RX6, "sheetsOf", "(II)I"⟩
abbrev cX6_lowestWith : ByteArray := prog_8_method_5_code
def yX6_lowestWith : MethodName := ⟨RX6, "lowestWith", "(II)I"⟩
abbrev cX6_takeSheet : ByteArray := prog_8_method_6_code
def yX6_takeSheet : MethodName := ⟨RX6, "takeSheet", "(II)V"⟩
def RX7 : String := "PrintRoom"
def TX7 : u_T := fun k => match k with
  | 0 => ("PrintRoom", "machine", "LPrintRoom$Machine;", true)
  | 1 => ("PrintRoom", "trial", "LPrintRoom$Machine;", true)
  | 2 => ("PrintRoom", "history", "LPrintRoom$History;", true)
  | 3 => ("PrintRoom", "text", "LPrintRoom$JobText;", true)
  | 4 => ("PrintRoom", "draft", "LPrintRoom$Job;", true)
  | _ => ("PrintRoom", "refusalReason", "I", false)
def tyX7 : Nat → FieldType := fun k => match k with
  | 0 => .object "PrintRoom$Machine"
  | 1 => .object "PrintRoom$Machine"
  | 2 => .object "PrintRoom$History"
  | 3 => .object "PrintRoom$JobText"
  | 4 => .object "PrintRoom$Job"
  | _ => .int
theorem nmX7 : ∀ a, a < 6 → ∀ b, b < 6 → a ≠ b → (TX7 a).2.1 ≠ (TX7 b).2.1 := by decide +kernel
theorem tyX7_ok : ∀ k, k < 6 → parseFieldDescriptor (TX7 k).2.2.1 = some (tyX7 k) := by decide +kernel
abbrev cX7_init : ByteArray := prog_1_method_1_code
def yX7_init : MethodName := ⟨RX7, "<init>", "()V"⟩
abbrev cX7_fill : ByteArray := prog_1_method_2_code
def yX7_fill : MethodName := ⟨RX7, "fill", "(II)I"⟩
abbrev cX7_load : ByteArray := prog_1_method_3_code
def yX7_load : MethodName := ⟨RX7, "load", "(III)I"⟩
abbrev cX7_tray : ByteArray := prog_1_method_4_code
def yX7_tray : MethodName := ⟨RX7, "tray", "(II)I"⟩
abbrev cX7_staples : ByteArray := prog_1_method_5_code
def yX7_staples : MethodName := ⟨RX7, "staples", "(I)I"⟩
abbrev cX7_emptyBin : ByteArray := prog_1_method_6_code
def yX7_emptyBin : MethodName := ⟨RX7, "emptyBin", "()I"⟩
abbrev cX7_set : ByteArray := prog_1_method_7_code
def yX7_set : MethodName := ⟨RX7, "set", "(II)I"⟩
abbrev cX7_job : ByteArray := prog_1_method_8_code
def yX7_job : MethodName := ⟨RX7, "job", "(IIIII)I"⟩
abbrev cX7_refusal : ByteArray := prog_1_method_9_code
def yX7_refusal : MethodName := ⟨RX7, "refusal", "()I"⟩
abbrev cX7_hold : ByteArray := prog_1_method_10_code
def yX7_hold : MethodName := ⟨RX7, "hold", "(II)I"⟩
abbrev cX7_cancel : ByteArray := prog_1_method_11_code
def yX7_cancel : MethodName := ⟨RX7, "cancel", "(I)I"⟩
abbrev cX7_priority : ByteArray := prog_1_method_12_code
def yX7_priority : MethodName := ⟨RX7, "priority", "(II)I"⟩
abbrev cX7_jobInfo : ByteArray := prog_1_method_13_code
def yX7_jobInfo : MethodName := ⟨RX7, "jobInfo", "(II)I"⟩
abbrev cX7_queued : ByteArray := prog_1_method_14_code
def yX7_queued : MethodName := ⟨RX7, "queued", "(I)I"⟩
abbrev cX7_run : ByteArray := prog_1_method_15_code
def yX7_run : MethodName := ⟨RX7, "run", "(I)I"⟩
abbrev cX7_stop : ByteArray := prog_1_method_16_code
def yX7_stop : MethodName := ⟨RX7, "stop", "()I"⟩
abbrev cX7_count : ByteArray := prog_1_method_17_code
def yX7_count : MethodName := ⟨RX7, "count", "(I)I"⟩
abbrev cX7_account : ByteArray := prog_1_method_18_code
def yX7_account : MethodName := ⟨RX7, "account", "(I)I"⟩
abbrev cX7_paper : ByteArray := prog_1_method_19_code
def yX7_paper : MethodName := ⟨RX7, "paper", "(II)I"⟩
abbrev cX7_lacking : ByteArray := prog_1_method_20_code
def yX7_lacking : MethodName := ⟨RX7, "lacking", "(II)I"⟩
abbrev cX7_ticksTo : ByteArray := prog_1_method_21_code
def yX7_ticksTo : MethodName := ⟨RX7, "ticksTo", "(I)I"⟩
abbrev cX7_undo : ByteArray := prog_1_method_22_code
def yX7_undo : MethodName := ⟨RX7, "undo", "()I"⟩
abbrev cX7_type : ByteArray := prog_1_method_23_code
def yX7_type : MethodName := ⟨RX7, "type", "(I)I"⟩
abbrev cX7_clearText : ByteArray := prog_1_method_24_code
def yX7_clearText : MethodName := ⟨RX7, "clearText", "()I"⟩
abbrev cX7_fault : ByteArray := prog_1_method_25_code
def yX7_fault : MethodName := ⟨RX7, "fault", "(I)I"⟩
abbrev cX7_enter : ByteArray := prog_1_method_26_code
def yX7_enter : MethodName := ⟨RX7, "enter", "()I"⟩
abbrev cX7_settingAt : ByteArray := prog_1_method_27_code
def yX7_settingAt : MethodName := ⟨RX7, "settingAt", "(I)I"⟩
abbrev cX7_isWithin : ByteArray := prog_1_method_28_code
def yX7_isWithin : MethodName := ⟨RX7, "isWithin", "(III)Z"⟩
abbrev cX7_isBelow : ByteArray := prog_1_method_29_code
def yX7_isBelow : MethodName := ⟨RX7, "isBelow", "(II)Z"⟩
abbrev cX7_isPaper : ByteArray := prog_1_method_30_code
def yX7_isPaper : MethodName := ⟨RX7, "isPaper", "(II)Z"⟩
def RX8 : String := "PrintRoomModel"
def TX8 : u_T := fun k => match k with
  | 0 => ("PrintRoomModel", "now", "[I", true)
  | 1 => ("PrintRoomModel", "past", "[I", true)
  | 2 => ("PrintRoomModel", "aside", "[I", true)
  | 3 => ("PrintRoomModel", "saved", "I", false)
  | 4 => ("PrintRoomModel", "refused", "I", false)
  | 5 => ("PrintRoomModel", "text", "[I", true)
  | 6 => ("PrintRoomModel", "length", "I", false)
  | 7 => ("PrintRoomModel", "spot", "I", false)
  | 8 => ("PrintRoomModel", "read", "[I", true)
  | 9 => ("PrintRoomModel", "faultAt", "I", false)
  | 10 => ("PrintRoomModel", "faultWhy", "I", false)
  | _ => ("PrintRoomModel", "readMany", "I", false)
def tyX8 : Nat → FieldType := fun k => match k with
  | 0 => .array .int
  | 1 => .array .int
  | 2 => .array .int
  | 3 => .int
  | 4 => .int
  | 5 => .array .int
  | 6 => .int
  | 7 => .int
  | 8 => .array .int
  | 9 => .int
  | 10 => .int
  | _ => .int
theorem nmX8 : ∀ a, a < 12 → ∀ b, b < 12 → a ≠ b → (TX8 a).2.1 ≠ (TX8 b).2.1 := by decide +kernel
theorem tyX8_ok : ∀ k, k < 12 → parseFieldDescriptor (TX8 k).2.2.1 = some (tyX8 k) := by decide +kernel
abbrev cX8_init : ByteArray := prog_10_method_1_code
def yX8_init : MethodName := ⟨RX8, "<init>", "()V"⟩
abbrev cX8_in : ByteArray := prog_10_method_2_code
def yX8_in : MethodName := ⟨RX8, "in", "(III)Z"⟩
abbrev cX8_records : ByteArray := prog_10_method_3_code
def yX8_records : MethodName := ⟨RX8, "records", "()V"⟩
abbrev cX8_undo : ByteArray := prog_10_method_4_code
def yX8_undo : MethodName := ⟨RX8, "undo", "()I"⟩
abbrev cX8_isPaper : ByteArray := prog_10_method_5_code
def yX8_isPaper : MethodName := ⟨RX8, "isPaper", "(II)Z"⟩
abbrev cX8_isTray : ByteArray := prog_10_method_6_code
def yX8_isTray : MethodName := ⟨RX8, "isTray", "(I)Z"⟩
abbrev cX8_fill : ByteArray := prog_10_method_7_code
def yX8_fill : MethodName := ⟨RX8, "fill", "(II)I"⟩
abbrev cX8_load : ByteArray := prog_10_method_8_code
def yX8_load : MethodName := ⟨RX8, "load", "(III)I"⟩
abbrev cX8_isOf : ByteArray := prog_10_method_9_code
def yX8_isOf : MethodName := ⟨RX8, "isOf", "(III)Z"⟩
abbrev cX8_sheetsOf : ByteArray := prog_10_method_10_code
def yX8_sheetsOf : MethodName := ⟨RX8, "sheetsOf", "(II)I"⟩
abbrev cX8_tray : ByteArray := prog_10_method_11_code
def yX8_tray : MethodName := ⟨RX8, "tray", "(II)I"⟩
abbrev cX8_puts : ByteArray := prog_10_method_12_code
def yX8_puts : MethodName := ⟨RX8, "puts", "(II)I"⟩
abbrev cX8_staples : ByteArray := prog_10_method_13_code
def yX8_staples : MethodName := ⟨RX8, "staples", "(I)I"⟩
abbrev cX8_emptyBin : ByteArray := prog_10_method_14_code
def yX8_emptyBin : MethodName := ⟨RX8, "emptyBin", "()I"⟩
abbrev cX8_isSetting : ByteArray := prog_10_method_15_code
def yX8_isSetting : MethodName := ⟨RX8, "isSetting", "(II)Z"⟩
abbrev cX8_set : ByteArray := prog_10_method_16_code
def yX8_set : MethodName := ⟨RX8, "set", "(II)I"⟩
abbrev cX8_jobAt : ByteArray := prog_10_method_17_code
def yX8_jobAt : MethodName := ⟨RX8, "jobAt", "(I)I"⟩
abbrev cX8_of : ByteArray := prog_10_method_18_code
def yX8_of : MethodName := ⟨RX8, "of", "(II)I"⟩
abbrev cX8_placeOf : ByteArray := prog_10_method_19_code
def yX8_placeOf : MethodName := ⟨RX8, "placeOf", "(I)I"⟩
abbrev cX8_setOf : ByteArray := prog_10_method_20_code
def yX8_setOf : MethodName := ⟨RX8, "setOf", "(II)I"⟩
abbrev cX8_whyNot : ByteArray := prog_10_method_21_code
def yX8_whyNot : MethodName := ⟨RX8, "whyNot", "(III)I"⟩
abbrev cX8_comes : ByteArray := prog_10_method_22_code
def yX8_comes : MethodName := ⟨RX8, "comes", "(IIIII)I"⟩
abbrev cX8_isPages : ByteArray := prog_10_method_23_code
def yX8_isPages : MethodName := ⟨RX8, "isPages", "(I)Z"⟩
abbrev cX8_isCopies : ByteArray := prog_10_method_24_code
def yX8_isCopies : MethodName := ⟨RX8, "isCopies", "(I)Z"⟩
abbrev cX8_job : ByteArray := prog_10_method_25_code
def yX8_job : MethodName := ⟨RX8, "job", "(IIIII)I"⟩
abbrev cX8_refusal : ByteArray := prog_10_method_26_code
def yX8_refusal : MethodName := ⟨RX8, "refusal", "()I"⟩
abbrev cX8_goesJob : ByteArray := prog_10_method_27_code
def yX8_goesJob : MethodName := ⟨RX8, "goesJob", "(I)V"⟩
abbrev cX8_givesUp : ByteArray := prog_10_method_28_code
def yX8_givesUp : MethodName := ⟨RX8, "givesUp", "(I)V"⟩
abbrev cX8_endsWork : ByteArray := prog_10_method_29_code
def yX8_endsWork : MethodName := ⟨RX8, "endsWork", "()V"⟩
abbrev cX8_hold : ByteArray := prog_10_method_30_code
def yX8_hold : MethodName := ⟨RX8, "hold", "(II)I"⟩
abbrev cX8_cancel : ByteArray := prog_10_method_31_code
def yX8_cancel : MethodName := ⟨RX8, "cancel", "(I)I"⟩
abbrev cX8_priority : ByteArray := prog_10_method_32_code
def yX8_priority : MethodName := ⟨RX8, "priority", "(II)I"⟩
abbrev cX8_setSheets : ByteArray := prog_10_method_33_code
def yX8_setSheets : MethodName := ⟨RX8, "setSheets", "(I)I"⟩
abbrev cX8_allSheets : ByteArray := prog_10_method_34_code
def yX8_allSheets : MethodName := ⟨RX8, "allSheets", "(I)I"⟩
abbrev cX8_isGathered : ByteArray := prog_10_method_35_code
def yX8_isGathered : MethodName := ⟨RX8, "isGathered", "(I)Z"⟩
abbrev cX8_nextSheet : ByteArray := prog_10_method_36_code
def yX8_nextSheet : MethodName := ⟨RX8, "nextSheet", "(I)I"⟩
abbrev cX8_nextCopy : ByteArray := prog_10_method_37_code
def yX8_nextCopy : MethodName := ⟨RX8, "nextCopy", "(I)I"⟩
abbrev cX8_tellJob : ByteArray := prog_10_method_38_code
def yX8_tellJob : MethodName := ⟨RX8, "tellJob", "(II)I"⟩
abbrev cX8_jobInfo : ByteArray := prog_10_method_39_code
def yX8_jobInfo : MethodName := ⟨RX8, "jobInfo", "(II)I"⟩
abbrev cX8_isAhead : ByteArray := prog_10_method_40_code
def yX8_isAhead : MethodName := ⟨RX8, "isAhead", "(II)Z"⟩
abbrev cX8_queued : ByteArray := prog_10_method_41_code
def yX8_queued : MethodName := ⟨RX8, "queued", "(I)I"⟩
abbrev cX8_nextJob : ByteArray := prog_10_method_42_code
def yX8_nextJob : MethodName := ⟨RX8, "nextJob", "()I"⟩
abbrev cX8_staplesOf : ByteArray := prog_10_method_43_code
def yX8_staplesOf : MethodName := ⟨RX8, "staplesOf", "(I)I"⟩
abbrev cX8_hasSet : ByteArray := prog_10_method_44_code
def yX8_hasSet : MethodName := ⟨RX8, "hasSet", "(I)Z"⟩
abbrev cX8_whyStop : ByteArray := prog_10_method_45_code
def yX8_whyStop : MethodName := ⟨RX8, "whyStop", "(I)I"⟩
abbrev cX8_leaves : ByteArray := prog_10_method_46_code
def yX8_leaves : MethodName := ⟨RX8, "leaves", "(I)V"⟩
abbrev cX8_stapled : ByteArray := prog_10_method_47_code
def yX8_stapled : MethodName := ⟨RX8, "stapled", "(I)V"⟩
abbrev cX8_takesPaper : ByteArray := prog_10_method_48_code
def yX8_takesPaper : MethodName := ⟨RX8, "takesPaper", "(II)V"⟩
abbrev cX8_sides : ByteArray := prog_10_method_49_code
def yX8_sides : MethodName := ⟨RX8, "sides", "(I)I"⟩
abbrev cX8_beginsSheet : ByteArray := prog_10_method_50_code
def yX8_beginsSheet : MethodName := ⟨RX8, "beginsSheet", "(I)V"⟩
abbrev cX8_begins : ByteArray := prog_10_method_51_code
def yX8_begins : MethodName := ⟨RX8, "begins", "()I"⟩
abbrev cX8_finishes : ByteArray := prog_10_method_52_code
def yX8_finishes : MethodName := ⟨RX8, "finishes", "()V"⟩
abbrev cX8_goesBy : ByteArray := prog_10_method_53_code
def yX8_goesBy : MethodName := ⟨RX8, "goesBy", "(II)I"⟩
abbrev cX8_run : ByteArray := prog_10_method_54_code
def yX8_run : MethodName := ⟨RX8, "run", "(I)I"⟩
abbrev cX8_keeps : ByteArray := prog_10_method_55_code
def yX8_keeps : MethodName := ⟨RX8, "keeps", "()V"⟩
abbrev cX8_takesBack : ByteArray := prog_10_method_56_code
def yX8_takesBack : MethodName := ⟨RX8, "takesBack", "()V"⟩
abbrev cX8_stop : ByteArray := prog_10_method_57_code
def yX8_stop : MethodName := ⟨RX8, "stop", "()I"⟩
abbrev cX8_count : ByteArray := prog_10_method_58_code
def yX8_count : MethodName := ⟨RX8, "count", "(I)I"⟩
abbrev cX8_heldOnes : ByteArray := prog_10_method_59_code
def yX8_heldOnes : MethodName := ⟨RX8, "heldOnes", "()I"⟩
abbrev cX8_account : ByteArray := prog_10_method_60_code
def yX8_account : MethodName := ⟨RX8, "account", "(I)I"⟩
abbrev cX8_paper : ByteArray := prog_10_method_61_code
def yX8_paper : MethodName := ⟨RX8, "paper", "(II)I"⟩
abbrev cX8_lacking : ByteArray := prog_10_method_62_code
def yX8_lacking : MethodName := ⟨RX8, "lacking", "(II)I"⟩
abbrev cX8_ticksTo : ByteArray := prog_10_method_63_code
def yX8_ticksTo : MethodName := ⟨RX8, "ticksTo", "(I)I"⟩
abbrev cX8_type : ByteArray := prog_10_method_64_code
def yX8_type : MethodName := ⟨RX8, "type", "(I)I"⟩
abbrev cX8_clearText : ByteArray := prog_10_method_65_code
def yX8_clearText : MethodName := ⟨RX8, "clearText", "()I"⟩
abbrev cX8_isAt : ByteArray := prog_10_method_66_code
def yX8_isAt : MethodName := ⟨RX8, "isAt", "(I)Z"⟩
abbrev cX8_takes : ByteArray := prog_10_method_67_code
def yX8_takes : MethodName := ⟨RX8, "takes", "(I)Z"⟩
abbrev cX8_takesNumber : ByteArray := prog_10_method_68_code
def yX8_takesNumber : MethodName := ⟨RX8, "takesNumber", "(II)Z"⟩
abbrev cX8_letterAt : ByteArray := prog_10_method_69_code
def yX8_letterAt : MethodName := ⟨RX8, "letterAt", "(II)I"⟩
abbrev cX8_takesWord : ByteArray := prog_10_method_70_code
def yX8_takesWord : MethodName := ⟨RX8, "takesWord", "(I)Z"⟩
abbrev cX8_takesOption : ByteArray := prog_10_method_71_code
def yX8_takesOption : MethodName := ⟨RX8, "takesOption", "(I)Z"⟩
abbrev cX8_takesSize : ByteArray := prog_10_method_72_code
def yX8_takesSize : MethodName := ⟨RX8, "takesSize", "()Z"⟩
abbrev cX8_takesKind : ByteArray := prog_10_method_73_code
def yX8_takesKind : MethodName := ⟨RX8, "takesKind", "()Z"⟩
abbrev cX8_takesJob : ByteArray := prog_10_method_74_code
def yX8_takesJob : MethodName := ⟨RX8, "takesJob", "()Z"⟩
abbrev cX8_hasFault : ByteArray := prog_10_method_75_code
def yX8_hasFault : MethodName := ⟨RX8, "hasFault", "()Z"⟩
abbrev cX8_fault : ByteArray := prog_10_method_76_code
def yX8_fault : MethodName := ⟨RX8, "fault", "(I)I"⟩
abbrev cX8_enter : ByteArray := prog_10_method_77_code
def yX8_enter : MethodName := ⟨RX8, "enter", "()I"⟩
def RJ9 : String := "java/lang/Math"
def TJ9 : u_T := fun k => match k with
  | _ => ("", "", "", false)
def tyJ9 : Nat → FieldType := fun k => match k with
  | _ => .int
theorem nmJ9 : ∀ a, a < 0 → ∀ b, b < 0 → a ≠ b → (TJ9 a).2.1 ≠ (TJ9 b).2.1 := by decide +kernel
theorem tyJ9_ok : ∀ k, k < 0 → parseFieldDescriptor (TJ9 k).2.2.1 = some (tyJ9 k) := by decide +kernel
abbrev cJ9_max_7cf53 : ByteArray := prog_11_method_65_code
def yJ9_max_7cf53 : MethodName := ⟨RJ9, "max", "(II)I"⟩
abbrev cJ9_min_7cf53 : ByteArray := prog_11_method_69_code
def yJ9_min_7cf53 : MethodName := ⟨RJ9, "min", "(II)I"⟩
def RJ0 : String := "java/lang/String"
def TJ0 : u_T := fun k => match k with
  | _ => ("", "", "", false)
def tyJ0 : Nat → FieldType := fun k => match k with
  | _ => .int
theorem nmJ0 : ∀ a, a < 0 → ∀ b, b < 0 → a ≠ b → (TJ0 a).2.1 ≠ (TJ0 b).2.1 := by decide +kernel
theorem tyJ0_ok : ∀ k, k < 0 → parseFieldDescriptor (TJ0 k).2.2.1 = some (tyJ0 k) := by decide +kernel
abbrev cJ0_length_8abf5 : ByteArray := prog_12_method_54_code
def yJ0_length_8abf5 : MethodName := ⟨RJ0, "length", "()I"⟩
abbrev cJ0_charAt_5068e : ByteArray := prog_12_method_56_code
def yJ0_charAt_5068e : MethodName := ⟨RJ0, "charAt", "(I)C"⟩
abbrev cJ0_coder_7d493 : ByteArray := prog_12_method_152_code
def yJ0_coder_7d493 : MethodName := ⟨RJ0, "coder", "()B"⟩
abbrev cJ0_isLatin1_aae02 : ByteArray := prog_12_method_154_code
def yJ0_isLatin1_aae02 : MethodName := ⟨RJ0, "isLatin1", "()Z"⟩
abbrev cJ0_checkIndex_df160 : ByteArray := prog_12_method_155_code
def yJ0_checkIndex_df160 : MethodName := ⟨RJ0, "checkIndex", "(II)V"⟩
def RJ1 : String := "java/lang/StringLatin1"
def TJ1 : u_T := fun k => match k with
  | _ => ("", "", "", false)
def tyJ1 : Nat → FieldType := fun k => match k with
  | _ => .int
theorem nmJ1 : ∀ a, a < 0 → ∀ b, b < 0 → a ≠ b → (TJ1 a).2.1 ≠ (TJ1 b).2.1 := by decide +kernel
theorem tyJ1_ok : ∀ k, k < 0 → parseFieldDescriptor (TJ1 k).2.2.1 = some (tyJ1 k) := by decide +kernel
abbrev cJ1_charAt_3b067 : ByteArray := prog_13_method_2_code
def yJ1_charAt_3b067 : MethodName := ⟨RJ1, "charAt", "([BI)C"⟩
def RJ2 : String := "java/lang/StringUTF16"
def TJ2 : u_T := fun k => match k with
  | _ => ("", "", "", false)
def tyJ2 : Nat → FieldType := fun k => match k with
  | _ => .int
theorem nmJ2 : ∀ a, a < 0 → ∀ b, b < 0 → a ≠ b → (TJ2 a).2.1 ≠ (TJ2 b).2.1 := by decide +kernel
theorem tyJ2_ok : ∀ k, k < 0 → parseFieldDescriptor (TJ2 k).2.2.1 = some (tyJ2 k) := by decide +kernel
abbrev cJ2_getChar_3b067 : ByteArray := prog_14_method_5_code
def yJ2_getChar_3b067 : MethodName := ⟨RJ2, "getChar", "([BI)C"⟩
abbrev cJ2_length_9d52b : ByteArray := prog_14_method_6_code
def yJ2_length_9d52b : MethodName := ⟨RJ2, "length", "([B)I"⟩
abbrev cJ2_charAt_3b067 : ByteArray := prog_14_method_83_code
def yJ2_charAt_3b067 : MethodName := ⟨RJ2, "charAt", "([BI)C"⟩
abbrev cJ2_checkIndex_2214a : ByteArray := prog_14_method_91_code
def yJ2_checkIndex_2214a : MethodName := ⟨RJ2, "checkIndex", "(I[B)V"⟩
def RJ10 : String := "java/lang/System"
def TJ10 : u_T := fun k => match k with
  | _ => ("", "", "", false)
def tyJ10 : Nat → FieldType := fun k => match k with
  | _ => .int
theorem nmJ10 : ∀ a, a < 0 → ∀ b, b < 0 → a ≠ b → (TJ10 a).2.1 ≠ (TJ10 b).2.1 := by decide +kernel
theorem tyJ10_ok : ∀ k, k < 0 → parseFieldDescriptor (TJ10 k).2.2.1 = some (tyJ10 k) := by decide +kernel
def RJ3 : String := "jdk/internal/util/Preconditions"
def TJ3 : u_T := fun k => match k with
  | _ => ("", "", "", false)
def tyJ3 : Nat → FieldType := fun k => match k with
  | _ => .int
theorem nmJ3 : ∀ a, a < 0 → ∀ b, b < 0 → a ≠ b → (TJ3 a).2.1 ≠ (TJ3 b).2.1 := by decide +kernel
theorem tyJ3_ok : ∀ k, k < 0 → parseFieldDescriptor (TJ3 k).2.2.1 = some (tyJ3 k) := by decide +kernel
abbrev cJ3_checkIndex_8e157 : ByteArray := prog_16_method_11_code
def yJ3_checkIndex_8e157 : MethodName := ⟨RJ3, "checkIndex", "(IILjava/util/function/BiFunction;)I"⟩
def RL : String := "PrintRoomLaw"
abbrev cL_law : ByteArray := code
def yL_law : MethodName := ⟨RL, "law", "([I)Z"⟩
abbrev vwCl : List vw_C := [(RX0, TX0, 2), (RX1, TX1, 15), (RX2, TX2, 6), (RX3, TX3, 6), (RX4, TX4, 9), (RX5, TX5, 4), (RX6, TX6, 3), (RX7, TX7, 6), (RX8, TX8, 12)]
