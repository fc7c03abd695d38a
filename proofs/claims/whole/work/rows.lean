section
-- ===== PART A: goes FIRST, ahead of the names: the tables' words, and 'selects' of the private methods out of them =====
/-- a private method of a class that the tables say can be made, by its rows of tables_1 -/
def lw_okq (q : MethodName × Nat) : Prop := (q.1.cls ≠ "java/lang/invoke/MethodHandle" ∧ q.1.cls ≠ "java/lang/invoke/VarHandle") ∧ Cond.instantiable q.1.cls q.2 ∈ tables_1 ∧ Cond.privateMethod q.1 ∈ tables_1 ∧ Cond.instanceMethod q.1 ∈ tables_1
theorem lw_p0 : lw_okq (⟨"PrintRoom", "settingAt", "(I)I"⟩, 6) := ⟨⟨by decide +kernel, by decide +kernel⟩, List.mem_of_getElem? (i := 17) (by decide +kernel), List.mem_of_getElem? (i := 550) (by decide +kernel), List.mem_of_getElem? (i := 551) (by decide +kernel)⟩
theorem lw_p1 : lw_okq (⟨"PrintRoomModel", "records", "()V"⟩, 12) := ⟨⟨by decide +kernel, by decide +kernel⟩, List.mem_of_getElem? (i := 730) (by decide +kernel), List.mem_of_getElem? (i := 787) (by decide +kernel), List.mem_of_getElem? (i := 788) (by decide +kernel)⟩
theorem lw_p2 : lw_okq (⟨"PrintRoomModel", "sheetsOf", "(II)I"⟩, 12) := ⟨⟨by decide +kernel, by decide +kernel⟩, List.mem_of_getElem? (i := 730) (by decide +kernel), List.mem_of_getElem? (i := 802) (by decide +kernel), List.mem_of_getElem? (i := 803) (by decide +kernel)⟩
theorem lw_p3 : lw_okq (⟨"PrintRoomModel", "isOf", "(III)Z"⟩, 12) := ⟨⟨by decide +kernel, by decide +kernel⟩, List.mem_of_getElem? (i := 730) (by decide +kernel), List.mem_of_getElem? (i := 806) (by decide +kernel), List.mem_of_getElem? (i := 807) (by decide +kernel)⟩
theorem lw_p4 : lw_okq (⟨"PrintRoomModel", "puts", "(II)I"⟩, 12) := ⟨⟨by decide +kernel, by decide +kernel⟩, List.mem_of_getElem? (i := 730) (by decide +kernel), List.mem_of_getElem? (i := 814) (by decide +kernel), List.mem_of_getElem? (i := 815) (by decide +kernel)⟩
theorem lw_p5 : lw_okq (⟨"PrintRoomModel", "whyNot", "(III)I"⟩, 12) := ⟨⟨by decide +kernel, by decide +kernel⟩, List.mem_of_getElem? (i := 730) (by decide +kernel), List.mem_of_getElem? (i := 839) (by decide +kernel), List.mem_of_getElem? (i := 840) (by decide +kernel)⟩
theorem lw_p6 : lw_okq (⟨"PrintRoomModel", "comes", "(IIIII)I"⟩, 12) := ⟨⟨by decide +kernel, by decide +kernel⟩, List.mem_of_getElem? (i := 730) (by decide +kernel), List.mem_of_getElem? (i := 846) (by decide +kernel), List.mem_of_getElem? (i := 847) (by decide +kernel)⟩
theorem lw_p7 : lw_okq (⟨"PrintRoomModel", "placeOf", "(I)I"⟩, 12) := ⟨⟨by decide +kernel, by decide +kernel⟩, List.mem_of_getElem? (i := 730) (by decide +kernel), List.mem_of_getElem? (i := 861) (by decide +kernel), List.mem_of_getElem? (i := 862) (by decide +kernel)⟩
theorem lw_p8 : lw_okq (⟨"PrintRoomModel", "of", "(II)I"⟩, 12) := ⟨⟨by decide +kernel, by decide +kernel⟩, List.mem_of_getElem? (i := 730) (by decide +kernel), List.mem_of_getElem? (i := 865) (by decide +kernel), List.mem_of_getElem? (i := 866) (by decide +kernel)⟩
theorem lw_p9 : lw_okq (⟨"PrintRoomModel", "givesUp", "(I)V"⟩, 12) := ⟨⟨by decide +kernel, by decide +kernel⟩, List.mem_of_getElem? (i := 730) (by decide +kernel), List.mem_of_getElem? (i := 869) (by decide +kernel), List.mem_of_getElem? (i := 870) (by decide +kernel)⟩
theorem lw_p10 : lw_okq (⟨"PrintRoomModel", "endsWork", "()V"⟩, 12) := ⟨⟨by decide +kernel, by decide +kernel⟩, List.mem_of_getElem? (i := 730) (by decide +kernel), List.mem_of_getElem? (i := 873) (by decide +kernel), List.mem_of_getElem? (i := 874) (by decide +kernel)⟩
theorem lw_p11 : lw_okq (⟨"PrintRoomModel", "goesJob", "(I)V"⟩, 12) := ⟨⟨by decide +kernel, by decide +kernel⟩, List.mem_of_getElem? (i := 730) (by decide +kernel), List.mem_of_getElem? (i := 881) (by decide +kernel), List.mem_of_getElem? (i := 882) (by decide +kernel)⟩
theorem lw_p12 : lw_okq (⟨"PrintRoomModel", "tellJob", "(II)I"⟩, 12) := ⟨⟨by decide +kernel, by decide +kernel⟩, List.mem_of_getElem? (i := 730) (by decide +kernel), List.mem_of_getElem? (i := 893) (by decide +kernel), List.mem_of_getElem? (i := 894) (by decide +kernel)⟩
theorem lw_p13 : lw_okq (⟨"PrintRoomModel", "allSheets", "(I)I"⟩, 12) := ⟨⟨by decide +kernel, by decide +kernel⟩, List.mem_of_getElem? (i := 730) (by decide +kernel), List.mem_of_getElem? (i := 897) (by decide +kernel), List.mem_of_getElem? (i := 898) (by decide +kernel)⟩
theorem lw_p14 : lw_okq (⟨"PrintRoomModel", "setSheets", "(I)I"⟩, 12) := ⟨⟨by decide +kernel, by decide +kernel⟩, List.mem_of_getElem? (i := 730) (by decide +kernel), List.mem_of_getElem? (i := 901) (by decide +kernel), List.mem_of_getElem? (i := 902) (by decide +kernel)⟩
theorem lw_p15 : lw_okq (⟨"PrintRoomModel", "nextSheet", "(I)I"⟩, 12) := ⟨⟨by decide +kernel, by decide +kernel⟩, List.mem_of_getElem? (i := 730) (by decide +kernel), List.mem_of_getElem? (i := 905) (by decide +kernel), List.mem_of_getElem? (i := 906) (by decide +kernel)⟩
def lw_privs_1 : List (MethodName × Nat) := [(⟨"PrintRoom", "settingAt", "(I)I"⟩, 6), (⟨"PrintRoomModel", "records", "()V"⟩, 12), (⟨"PrintRoomModel", "sheetsOf", "(II)I"⟩, 12), (⟨"PrintRoomModel", "isOf", "(III)Z"⟩, 12), (⟨"PrintRoomModel", "puts", "(II)I"⟩, 12), (⟨"PrintRoomModel", "whyNot", "(III)I"⟩, 12), (⟨"PrintRoomModel", "comes", "(IIIII)I"⟩, 12), (⟨"PrintRoomModel", "placeOf", "(I)I"⟩, 12), (⟨"PrintRoomModel", "of", "(II)I"⟩, 12), (⟨"PrintRoomModel", "givesUp", "(I)V"⟩, 12), (⟨"PrintRoomModel", "endsWork", "()V"⟩, 12), (⟨"PrintRoomModel", "goesJob", "(I)V"⟩, 12), (⟨"PrintRoomModel", "tellJob", "(II)I"⟩, 12), (⟨"PrintRoomModel", "allSheets", "(I)I"⟩, 12), (⟨"PrintRoomModel", "setSheets", "(I)I"⟩, 12), (⟨"PrintRoomModel", "nextSheet", "(I)I"⟩, 12)]
theorem lw_r1 : ∀ q ∈ lw_privs_1, lw_okq q := List.forall_mem_cons.mpr ⟨lw_p0, List.forall_mem_cons.mpr ⟨lw_p1, List.forall_mem_cons.mpr ⟨lw_p2, List.forall_mem_cons.mpr ⟨lw_p3, List.forall_mem_cons.mpr ⟨lw_p4, List.forall_mem_cons.mpr ⟨lw_p5, List.forall_mem_cons.mpr ⟨lw_p6, List.forall_mem_cons.mpr ⟨lw_p7, List.forall_mem_cons.mpr ⟨lw_p8, List.forall_mem_cons.mpr ⟨lw_p9, List.forall_mem_cons.mpr ⟨lw_p10, List.forall_mem_cons.mpr ⟨lw_p11, List.forall_mem_cons.mpr ⟨lw_p12, List.forall_mem_cons.mpr ⟨lw_p13, List.forall_mem_cons.mpr ⟨lw_p14, List.forall_mem_cons.mpr ⟨lw_p15, fun _ h => absurd h List.not_mem_nil⟩⟩⟩⟩⟩⟩⟩⟩⟩⟩⟩⟩⟩⟩⟩⟩
theorem lw_p16 : lw_okq (⟨"PrintRoomModel", "isGathered", "(I)Z"⟩, 12) := ⟨⟨by decide +kernel, by decide +kernel⟩, List.mem_of_getElem? (i := 730) (by decide +kernel), List.mem_of_getElem? (i := 909) (by decide +kernel), List.mem_of_getElem? (i := 910) (by decide +kernel)⟩
theorem lw_p17 : lw_okq (⟨"PrintRoomModel", "nextCopy", "(I)I"⟩, 12) := ⟨⟨by decide +kernel, by decide +kernel⟩, List.mem_of_getElem? (i := 730) (by decide +kernel), List.mem_of_getElem? (i := 913) (by decide +kernel), List.mem_of_getElem? (i := 914) (by decide +kernel)⟩
theorem lw_p18 : lw_okq (⟨"PrintRoomModel", "isAhead", "(II)Z"⟩, 12) := ⟨⟨by decide +kernel, by decide +kernel⟩, List.mem_of_getElem? (i := 730) (by decide +kernel), List.mem_of_getElem? (i := 921) (by decide +kernel), List.mem_of_getElem? (i := 922) (by decide +kernel)⟩
theorem lw_p19 : lw_okq (⟨"PrintRoomModel", "begins", "()I"⟩, 12) := ⟨⟨by decide +kernel, by decide +kernel⟩, List.mem_of_getElem? (i := 730) (by decide +kernel), List.mem_of_getElem? (i := 930) (by decide +kernel), List.mem_of_getElem? (i := 931) (by decide +kernel)⟩
theorem lw_p20 : lw_okq (⟨"PrintRoomModel", "nextJob", "()I"⟩, 12) := ⟨⟨by decide +kernel, by decide +kernel⟩, List.mem_of_getElem? (i := 730) (by decide +kernel), List.mem_of_getElem? (i := 934) (by decide +kernel), List.mem_of_getElem? (i := 935) (by decide +kernel)⟩
theorem lw_p21 : lw_okq (⟨"PrintRoomModel", "whyStop", "(I)I"⟩, 12) := ⟨⟨by decide +kernel, by decide +kernel⟩, List.mem_of_getElem? (i := 730) (by decide +kernel), List.mem_of_getElem? (i := 938) (by decide +kernel), List.mem_of_getElem? (i := 939) (by decide +kernel)⟩
theorem lw_p22 : lw_okq (⟨"PrintRoomModel", "hasSet", "(I)Z"⟩, 12) := ⟨⟨by decide +kernel, by decide +kernel⟩, List.mem_of_getElem? (i := 730) (by decide +kernel), List.mem_of_getElem? (i := 942) (by decide +kernel), List.mem_of_getElem? (i := 943) (by decide +kernel)⟩
theorem lw_p23 : lw_okq (⟨"PrintRoomModel", "staplesOf", "(I)I"⟩, 12) := ⟨⟨by decide +kernel, by decide +kernel⟩, List.mem_of_getElem? (i := 730) (by decide +kernel), List.mem_of_getElem? (i := 946) (by decide +kernel), List.mem_of_getElem? (i := 947) (by decide +kernel)⟩
theorem lw_p24 : lw_okq (⟨"PrintRoomModel", "stapled", "(I)V"⟩, 12) := ⟨⟨by decide +kernel, by decide +kernel⟩, List.mem_of_getElem? (i := 730) (by decide +kernel), List.mem_of_getElem? (i := 950) (by decide +kernel), List.mem_of_getElem? (i := 951) (by decide +kernel)⟩
theorem lw_p25 : lw_okq (⟨"PrintRoomModel", "leaves", "(I)V"⟩, 12) := ⟨⟨by decide +kernel, by decide +kernel⟩, List.mem_of_getElem? (i := 730) (by decide +kernel), List.mem_of_getElem? (i := 954) (by decide +kernel), List.mem_of_getElem? (i := 955) (by decide +kernel)⟩
theorem lw_p26 : lw_okq (⟨"PrintRoomModel", "beginsSheet", "(I)V"⟩, 12) := ⟨⟨by decide +kernel, by decide +kernel⟩, List.mem_of_getElem? (i := 730) (by decide +kernel), List.mem_of_getElem? (i := 958) (by decide +kernel), List.mem_of_getElem? (i := 959) (by decide +kernel)⟩
theorem lw_p27 : lw_okq (⟨"PrintRoomModel", "takesPaper", "(II)V"⟩, 12) := ⟨⟨by decide +kernel, by decide +kernel⟩, List.mem_of_getElem? (i := 730) (by decide +kernel), List.mem_of_getElem? (i := 962) (by decide +kernel), List.mem_of_getElem? (i := 963) (by decide +kernel)⟩
theorem lw_p28 : lw_okq (⟨"PrintRoomModel", "sides", "(I)I"⟩, 12) := ⟨⟨by decide +kernel, by decide +kernel⟩, List.mem_of_getElem? (i := 730) (by decide +kernel), List.mem_of_getElem? (i := 966) (by decide +kernel), List.mem_of_getElem? (i := 967) (by decide +kernel)⟩
theorem lw_p29 : lw_okq (⟨"PrintRoomModel", "goesBy", "(II)I"⟩, 12) := ⟨⟨by decide +kernel, by decide +kernel⟩, List.mem_of_getElem? (i := 730) (by decide +kernel), List.mem_of_getElem? (i := 970) (by decide +kernel), List.mem_of_getElem? (i := 971) (by decide +kernel)⟩
theorem lw_p30 : lw_okq (⟨"PrintRoomModel", "finishes", "()V"⟩, 12) := ⟨⟨by decide +kernel, by decide +kernel⟩, List.mem_of_getElem? (i := 730) (by decide +kernel), List.mem_of_getElem? (i := 974) (by decide +kernel), List.mem_of_getElem? (i := 975) (by decide +kernel)⟩
theorem lw_p31 : lw_okq (⟨"PrintRoomModel", "keeps", "()V"⟩, 12) := ⟨⟨by decide +kernel, by decide +kernel⟩, List.mem_of_getElem? (i := 730) (by decide +kernel), List.mem_of_getElem? (i := 982) (by decide +kernel), List.mem_of_getElem? (i := 983) (by decide +kernel)⟩
def lw_privs_2 : List (MethodName × Nat) := [(⟨"PrintRoomModel", "isGathered", "(I)Z"⟩, 12), (⟨"PrintRoomModel", "nextCopy", "(I)I"⟩, 12), (⟨"PrintRoomModel", "isAhead", "(II)Z"⟩, 12), (⟨"PrintRoomModel", "begins", "()I"⟩, 12), (⟨"PrintRoomModel", "nextJob", "()I"⟩, 12), (⟨"PrintRoomModel", "whyStop", "(I)I"⟩, 12), (⟨"PrintRoomModel", "hasSet", "(I)Z"⟩, 12), (⟨"PrintRoomModel", "staplesOf", "(I)I"⟩, 12), (⟨"PrintRoomModel", "stapled", "(I)V"⟩, 12), (⟨"PrintRoomModel", "leaves", "(I)V"⟩, 12), (⟨"PrintRoomModel", "beginsSheet", "(I)V"⟩, 12), (⟨"PrintRoomModel", "takesPaper", "(II)V"⟩, 12), (⟨"PrintRoomModel", "sides", "(I)I"⟩, 12), (⟨"PrintRoomModel", "goesBy", "(II)I"⟩, 12), (⟨"PrintRoomModel", "finishes", "()V"⟩, 12), (⟨"PrintRoomModel", "keeps", "()V"⟩, 12)]
theorem lw_r2 : ∀ q ∈ lw_privs_2, lw_okq q := List.forall_mem_cons.mpr ⟨lw_p16, List.forall_mem_cons.mpr ⟨lw_p17, List.forall_mem_cons.mpr ⟨lw_p18, List.forall_mem_cons.mpr ⟨lw_p19, List.forall_mem_cons.mpr ⟨lw_p20, List.forall_mem_cons.mpr ⟨lw_p21, List.forall_mem_cons.mpr ⟨lw_p22, List.forall_mem_cons.mpr ⟨lw_p23, List.forall_mem_cons.mpr ⟨lw_p24, List.forall_mem_cons.mpr ⟨lw_p25, List.forall_mem_cons.mpr ⟨lw_p26, List.forall_mem_cons.mpr ⟨lw_p27, List.forall_mem_cons.mpr ⟨lw_p28, List.forall_mem_cons.mpr ⟨lw_p29, List.forall_mem_cons.mpr ⟨lw_p30, List.forall_mem_cons.mpr ⟨lw_p31, fun _ h => absurd h List.not_mem_nil⟩⟩⟩⟩⟩⟩⟩⟩⟩⟩⟩⟩⟩⟩⟩⟩
theorem lw_p32 : lw_okq (⟨"PrintRoomModel", "takesBack", "()V"⟩, 12) := ⟨⟨by decide +kernel, by decide +kernel⟩, List.mem_of_getElem? (i := 730) (by decide +kernel), List.mem_of_getElem? (i := 986) (by decide +kernel), List.mem_of_getElem? (i := 987) (by decide +kernel)⟩
theorem lw_p33 : lw_okq (⟨"PrintRoomModel", "heldOnes", "()I"⟩, 12) := ⟨⟨by decide +kernel, by decide +kernel⟩, List.mem_of_getElem? (i := 730) (by decide +kernel), List.mem_of_getElem? (i := 994) (by decide +kernel), List.mem_of_getElem? (i := 995) (by decide +kernel)⟩
theorem lw_p34 : lw_okq (⟨"PrintRoomModel", "hasFault", "()Z"⟩, 12) := ⟨⟨by decide +kernel, by decide +kernel⟩, List.mem_of_getElem? (i := 730) (by decide +kernel), List.mem_of_getElem? (i := 1026) (by decide +kernel), List.mem_of_getElem? (i := 1027) (by decide +kernel)⟩
theorem lw_p35 : lw_okq (⟨"PrintRoomModel", "takesJob", "()Z"⟩, 12) := ⟨⟨by decide +kernel, by decide +kernel⟩, List.mem_of_getElem? (i := 730) (by decide +kernel), List.mem_of_getElem? (i := 1030) (by decide +kernel), List.mem_of_getElem? (i := 1031) (by decide +kernel)⟩
theorem lw_p36 : lw_okq (⟨"PrintRoomModel", "takesNumber", "(II)Z"⟩, 12) := ⟨⟨by decide +kernel, by decide +kernel⟩, List.mem_of_getElem? (i := 730) (by decide +kernel), List.mem_of_getElem? (i := 1034) (by decide +kernel), List.mem_of_getElem? (i := 1035) (by decide +kernel)⟩
theorem lw_p37 : lw_okq (⟨"PrintRoomModel", "takes", "(I)Z"⟩, 12) := ⟨⟨by decide +kernel, by decide +kernel⟩, List.mem_of_getElem? (i := 730) (by decide +kernel), List.mem_of_getElem? (i := 1038) (by decide +kernel), List.mem_of_getElem? (i := 1039) (by decide +kernel)⟩
theorem lw_p38 : lw_okq (⟨"PrintRoomModel", "isAt", "(I)Z"⟩, 12) := ⟨⟨by decide +kernel, by decide +kernel⟩, List.mem_of_getElem? (i := 730) (by decide +kernel), List.mem_of_getElem? (i := 1042) (by decide +kernel), List.mem_of_getElem? (i := 1043) (by decide +kernel)⟩
theorem lw_p39 : lw_okq (⟨"PrintRoomModel", "takesOption", "(I)Z"⟩, 12) := ⟨⟨by decide +kernel, by decide +kernel⟩, List.mem_of_getElem? (i := 730) (by decide +kernel), List.mem_of_getElem? (i := 1046) (by decide +kernel), List.mem_of_getElem? (i := 1047) (by decide +kernel)⟩
theorem lw_p40 : lw_okq (⟨"PrintRoomModel", "takesWord", "(I)Z"⟩, 12) := ⟨⟨by decide +kernel, by decide +kernel⟩, List.mem_of_getElem? (i := 730) (by decide +kernel), List.mem_of_getElem? (i := 1050) (by decide +kernel), List.mem_of_getElem? (i := 1051) (by decide +kernel)⟩
theorem lw_p41 : lw_okq (⟨"PrintRoomModel", "takesSize", "()Z"⟩, 12) := ⟨⟨by decide +kernel, by decide +kernel⟩, List.mem_of_getElem? (i := 730) (by decide +kernel), List.mem_of_getElem? (i := 1067) (by decide +kernel), List.mem_of_getElem? (i := 1068) (by decide +kernel)⟩
theorem lw_p42 : lw_okq (⟨"PrintRoomModel", "takesKind", "()Z"⟩, 12) := ⟨⟨by decide +kernel, by decide +kernel⟩, List.mem_of_getElem? (i := 730) (by decide +kernel), List.mem_of_getElem? (i := 1071) (by decide +kernel), List.mem_of_getElem? (i := 1072) (by decide +kernel)⟩
def lw_privs_3 : List (MethodName × Nat) := [(⟨"PrintRoomModel", "takesBack", "()V"⟩, 12), (⟨"PrintRoomModel", "heldOnes", "()I"⟩, 12), (⟨"PrintRoomModel", "hasFault", "()Z"⟩, 12), (⟨"PrintRoomModel", "takesJob", "()Z"⟩, 12), (⟨"PrintRoomModel", "takesNumber", "(II)Z"⟩, 12), (⟨"PrintRoomModel", "takes", "(I)Z"⟩, 12), (⟨"PrintRoomModel", "isAt", "(I)Z"⟩, 12), (⟨"PrintRoomModel", "takesOption", "(I)Z"⟩, 12), (⟨"PrintRoomModel", "takesWord", "(I)Z"⟩, 12), (⟨"PrintRoomModel", "takesSize", "()Z"⟩, 12), (⟨"PrintRoomModel", "takesKind", "()Z"⟩, 12)]
theorem lw_r3 : ∀ q ∈ lw_privs_3, lw_okq q := List.forall_mem_cons.mpr ⟨lw_p32, List.forall_mem_cons.mpr ⟨lw_p33, List.forall_mem_cons.mpr ⟨lw_p34, List.forall_mem_cons.mpr ⟨lw_p35, List.forall_mem_cons.mpr ⟨lw_p36, List.forall_mem_cons.mpr ⟨lw_p37, List.forall_mem_cons.mpr ⟨lw_p38, List.forall_mem_cons.mpr ⟨lw_p39, List.forall_mem_cons.mpr ⟨lw_p40, List.forall_mem_cons.mpr ⟨lw_p41, List.forall_mem_cons.mpr ⟨lw_p42, fun _ h => absurd h List.not_mem_nil⟩⟩⟩⟩⟩⟩⟩⟩⟩⟩⟩
def lw_privs : List (MethodName × Nat) := lw_privs_1 ++ (lw_privs_2 ++ (lw_privs_3))
def lw_tbl : List Cond := k2_sels lw_privs ++ tables_1
theorem lw_privs_ok : ∀ q ∈ lw_privs, lw_okq q := by
  show ∀ q ∈ lw_privs_1 ++ (lw_privs_2 ++ (lw_privs_3)), lw_okq q
  exact List.forall_mem_append.mpr ⟨lw_r1, List.forall_mem_append.mpr ⟨lw_r2, lw_r3⟩⟩
/-! ===== BEGIN words of one list among another's, by their places ===== -/
theorem goodIn_r {big : List Cond} (ws : List Cond) (ps : List Nat) (hp : ws = ps.filterMap (fun i => big[i]?)) (h : ws.all goodWord = true) : GoodIn big ws := by
  intro w hw
  have h1 := List.all_eq_true.mp h w hw
  rw [hp] at hw
  obtain ⟨i, -, hi⟩ := List.mem_filterMap.mp hw
  have hm : w ∈ big := by first | exact List.mem_of_getElem? hi | exact List.getElem?_mem hi
  exact ⟨hm, good_of_word h1⟩
theorem goodIn_app {big a b : List Cond} (ha : GoodIn big a) (hb : GoodIn big b) : GoodIn big (a ++ b) := fun w h => (List.mem_append.mp h).elim (ha w) (hb w)
theorem goodIn_ca {big a b : List Cond} {c : Cond} (ha : GoodIn big (c :: a)) (hb : GoodIn big b) : GoodIn big (c :: (a ++ b)) := fun w h => (List.mem_cons.mp h).elim (fun e => ha w (List.mem_cons.mpr (Or.inl e))) (fun h => (List.mem_append.mp h).elim (fun h => ha w (List.mem_cons.mpr (Or.inr h))) (hb w))
theorem goodIn_sub {big ws : List Cond} (hm : ∀ w ∈ ws, w ∈ big) (h : ws.all goodWord = true) : GoodIn big ws := fun w hw => ⟨hm w hw, good_of_word (List.all_eq_true.mp h w hw)⟩
/-! ===== END ===== -/

/-! ===== BEGIN printed: names, fields, word lists, decode rows ===== -/
def RX0 : String := "PrintRoom$History"
def TX0 : u_T := fun k => match k with
  | 0 => ("PrintRoom$History", "rows", "[LPrintRoom$Machine;", true)
  | _ => ("PrintRoom$History", "states", "I", false)
def tyX0 : Nat → FieldType := fun k => match k with
  | 0 => .array (.object "PrintRoom$Machine")
  | _ => .int
theorem nmX0 : ∀ a, a < 2 → ∀ b, b < 2 → a ≠ b → (TX0 a).2.1 ≠ (TX0 b).2.1 := by decide +kernel
theorem tyX0_ok : ∀ k, k < 2 → parseFieldDescriptor (TX0 k).2.2.1 = some (tyX0 k) := by decide +kernel
abbrev cX0_init : ByteArray := prog_2_method_1_code
def yX0_init : MethodName := ⟨RX0, "<init>", "()V"⟩
abbrev cX0_keep : ByteArray := prog_2_method_2_code
def yX0_keep : MethodName := ⟨RX0, "keep", "(LPrintRoom$Machine;)V"⟩
abbrev cX0_dropOldest : ByteArray := prog_2_method_3_code
def yX0_dropOldest : MethodName := ⟨RX0, "dropOldest", "()V"⟩
abbrev cX0_restore : ByteArray := prog_2_method_4_code
def yX0_restore : MethodName := ⟨RX0, "restore", "(LPrintRoom$Machine;)Z"⟩
def RX1 : String := "PrintRoom$Job"
def TX1 : u_T := fun k => match k with
  | 0 => ("PrintRoom$Job", "number", "I", false)
  | 1 => ("PrintRoom$Job", "pages", "I", false)
  | 2 => ("PrintRoom$Job", "copies", "I", false)
  | 3 => ("PrintRoom$Job", "size", "I", false)
  | 4 => ("PrintRoom$Job", "kind", "I", false)
  | 5 => ("PrintRoom$Job", "how", "I", false)
  | 6 => ("PrintRoom$Job", "onBothSides", "Z", false)
  | 7 => ("PrintRoom$Job", "gathered", "Z", false)
  | 8 => ("PrintRoom$Job", "staplesOfSet", "I", false)
  | 9 => ("PrintRoom$Job", "sheetsOfSet", "I", false)
  | 10 => ("PrintRoom$Job", "sheetsInAll", "I", false)
  | 11 => ("PrintRoom$Job", "priority", "I", false)
  | 12 => ("PrintRoom$Job", "held", "Z", false)
  | 13 => ("PrintRoom$Job", "printed", "I", false)
  | _ => ("PrintRoom$Job", "stapledSets", "I", false)
def tyX1 : Nat → FieldType := fun k => match k with
  | 0 => .int
  | 1 => .int
  | 2 => .int
  | 3 => .int
  | 4 => .int
  | 5 => .int
  | 6 => .boolean
  | 7 => .boolean
  | 8 => .int
  | 9 => .int
  | 10 => .int
  | 11 => .int
  | 12 => .boolean
  | 13 => .int
  | _ => .int
theorem nmX1 : ∀ a, a < 15 → ∀ b, b < 15 → a ≠ b → (TX1 a).2.1 ≠ (TX1 b).2.1 := by decide +kernel
theorem tyX1_ok : ∀ k, k < 15 → parseFieldDescriptor (TX1 k).2.2.1 = some (tyX1 k) := by decide +kernel
abbrev cX1_init : ByteArray := prog_3_method_1_code
def yX1_init : MethodName := ⟨RX1, "<init>", "()V"⟩
abbrev cX1_describe : ByteArray := prog_3_method_2_code
def yX1_describe : MethodName := ⟨RX1, "describe", "(IIIII)V"⟩
abbrev cX1_copyFrom : ByteArray := prog_3_method_3_code
def yX1_copyFrom : MethodName := ⟨RX1, "copyFrom", "(LPrintRoom$Job;)V"⟩
abbrev cX1_isInRange : ByteArray := prog_3_method_4_code
def yX1_isInRange : MethodName := ⟨RX1, "isInRange", "()Z"⟩
abbrev cX1_isOn : ByteArray := prog_3_method_5_code
def yX1_isOn : MethodName := ⟨RX1, "isOn", "(II)Z"⟩
abbrev cX1_staplingRefusal : ByteArray := prog_3_method_6_code
def yX1_staplingRefusal : MethodName := ⟨RX1, "staplingRefusal", "(I)I"⟩
abbrev cX1_hasSetToStaple : ByteArray := prog_3_method_7_code
def yX1_hasSetToStaple : MethodName := ⟨RX1, "hasSetToStaple", "()Z"⟩
abbrev cX1_isFinished : ByteArray := prog_3_method_8_code
def yX1_isFinished : MethodName := ⟨RX1, "isFinished", "()Z"⟩
abbrev cX1_nextSheet : ByteArray := prog_3_method_9_code
def yX1_nextSheet : MethodName := ⟨RX1, "nextSheet", "()I"⟩
abbrev cX1_nextCopy : ByteArray := prog_3_method_10_code
def yX1_nextCopy : MethodName := ⟨RX1, "nextCopy", "()I"⟩
abbrev cX1_sidesOfNextSheet : ByteArray := prog_3_method_11_code
def yX1_sidesOfNextSheet : MethodName := ⟨RX1, "sidesOfNextSheet", "()I"⟩
abbrev cX1_property : ByteArray := prog_3_method_12_code
def yX1_property : MethodName := ⟨RX1, "property", "(I)I"⟩
def RX2 : String := "PrintRoom$JobText"
def TX2 : u_T := fun k => match k with
  | 0 => ("PrintRoom$JobText", "signs", "[C", true)
  | 1 => ("PrintRoom$JobText", "length", "I", false)
  | 2 => ("PrintRoom$JobText", "place", "I", false)
  | 3 => ("PrintRoom$JobText", "jobs", "I", false)
  | 4 => ("PrintRoom$JobText", "faultPlace", "I", false)
  | _ => ("PrintRoom$JobText", "faultReason", "I", false)
def tyX2 : Nat → FieldType := fun k => match k with
  | 0 => .array .char
  | 1 => .int
  | 2 => .int
  | 3 => .int
  | 4 => .int
  | _ => .int
theorem nmX2 : ∀ a, a < 6 → ∀ b, b < 6 → a ≠ b → (TX2 a).2.1 ≠ (TX2 b).2.1 := by decide +kernel
theorem tyX2_ok : ∀ k, k < 6 → parseFieldDescriptor (TX2 k).2.2.1 = some (tyX2 k) := by decide +kernel
abbrev cX2_init : ByteArray := prog_4_method_1_code
def yX2_init : MethodName := ⟨RX2, "<init>", "()V"⟩
abbrev cX2_append : ByteArray := prog_4_method_2_code
def yX2_append : MethodName := ⟨RX2, "append", "(C)V"⟩
abbrev cX2_examine : ByteArray := prog_4_method_3_code
def yX2_examine : MethodName := ⟨RX2, "examine", "(LPrintRoom$Job;LPrintRoom$Machine;)V"⟩
abbrev cX2_reasonOfNext : ByteArray := prog_4_method_4_code
def yX2_reasonOfNext : MethodName := ⟨RX2, "reasonOfNext", "(LPrintRoom$Job;II)I"⟩
abbrev cX2_readJob : ByteArray := prog_4_method_5_code
def yX2_readJob : MethodName := ⟨RX2, "readJob", "(LPrintRoom$Job;)Z"⟩
abbrev cX2_readNumber : ByteArray := prog_4_method_6_code
def yX2_readNumber : MethodName := ⟨RX2, "readNumber", "(Ljava/lang/String;)I"⟩
abbrev cX2_digitAtPlace : ByteArray := prog_4_method_7_code
def yX2_digitAtPlace : MethodName := ⟨RX2, "digitAtPlace", "()I"⟩
abbrev cX2_readHow : ByteArray := prog_4_method_8_code
def yX2_readHow : MethodName := ⟨RX2, "readHow", "()I"⟩
abbrev cX2_readSize : ByteArray := prog_4_method_9_code
def yX2_readSize : MethodName := ⟨RX2, "readSize", "()I"⟩
abbrev cX2_readKind : ByteArray := prog_4_method_10_code
def yX2_readKind : MethodName := ⟨RX2, "readKind", "()I"⟩
abbrev cX2_sizeWord : ByteArray := prog_4_method_11_code
def yX2_sizeWord : MethodName := ⟨RX2, "sizeWord", "(I)Ljava/lang/String;"⟩
abbrev cX2_kindWord : ByteArray := prog_4_method_12_code
def yX2_kindWord : MethodName := ⟨RX2, "kindWord", "(I)Ljava/lang/String;"⟩
abbrev cX2_skips : ByteArray := prog_4_method_13_code
def yX2_skips : MethodName := ⟨RX2, "skips", "(Ljava/lang/String;)Z"⟩
def RX3 : String := "PrintRoom$Ledger"
def TX3 : u_T := fun k => match k with
  | 0 => ("PrintRoom$Ledger", "accounts", "[I", true)
  | 1 => ("PrintRoom$Ledger", "paperSizes", "[I", true)
  | 2 => ("PrintRoom$Ledger", "paperKinds", "[I", true)
  | 3 => ("PrintRoom$Ledger", "paperSheets", "[I", true)
  | 4 => ("PrintRoom$Ledger", "papers", "I", false)
  | _ => ("PrintRoom$Ledger", "finishedSheets", "I", false)
def tyX3 : Nat → FieldType := fun k => match k with
  | 0 => .array .int
  | 1 => .array .int
  | 2 => .array .int
  | 3 => .array .int
  | 4 => .int
  | _ => .int
theorem nmX3 : ∀ a, a < 6 → ∀ b, b < 6 → a ≠ b → (TX3 a).2.1 ≠ (TX3 b).2.1 := by decide +kernel
theorem tyX3_ok : ∀ k, k < 6 → parseFieldDescriptor (TX3 k).2.2.1 = some (tyX3 k) := by decide +kernel
abbrev cX3_init : ByteArray := prog_5_method_1_code
def yX3_init : MethodName := ⟨RX3, "<init>", "()V"⟩
abbrev cX3_copyFrom : ByteArray := prog_5_method_2_code
def yX3_copyFrom : MethodName := ⟨RX3, "copyFrom", "(LPrintRoom$Ledger;)V"⟩
abbrev cX3_add : ByteArray := prog_5_method_3_code
def yX3_add : MethodName := ⟨RX3, "add", "(II)V"⟩
abbrev cX3_addTakenSheet : ByteArray := prog_5_method_4_code
def yX3_addTakenSheet : MethodName := ⟨RX3, "addTakenSheet", "(II)V"⟩
def RX4 : String := "PrintRoom$Machine"
def TX4 : u_T := fun k => match k with
  | 0 => ("PrintRoom$Machine", "trays", "LPrintRoom$Trays;", true)
  | 1 => ("PrintRoom$Machine", "queue", "LPrintRoom$Queue;", true)
  | 2 => ("PrintRoom$Machine", "ledger", "LPrintRoom$Ledger;", true)
  | 3 => ("PrintRoom$Machine", "settings", "[I", true)
  | 4 => ("PrintRoom$Machine", "staplesLeft", "I", false)
  | 5 => ("PrintRoom$Machine", "bin", "I", false)
  | 6 => ("PrintRoom$Machine", "work", "I", false)
  | 7 => ("PrintRoom$Machine", "workJob", "I", false)
  | _ => ("PrintRoom$Machine", "workTicks", "I", false)
def tyX4 : Nat → FieldType := fun k => match k with
  | 0 => .object "PrintRoom$Trays"
  | 1 => .object "PrintRoom$Queue"
  | 2 => .object "PrintRoom$Ledger"
  | 3 => .array .int
  | 4 => .int
  | 5 => .int
  | 6 => .int
  | 7 => .int
  | _ => .int
theorem nmX4 : ∀ a, a < 9 → ∀ b, b < 9 → a ≠ b → (TX4 a).2.1 ≠ (TX4 b).2.1 := by decide +kernel
theorem tyX4_ok : ∀ k, k < 9 → parseFieldDescriptor (TX4 k).2.2.1 = some (tyX4 k) := by decide +kernel
abbrev cX4_init : ByteArray := prog_6_method_1_code
def yX4_init : MethodName := ⟨RX4, "<init>", "()V"⟩
abbrev cX4_copyFrom : ByteArray := prog_6_method_2_code
def yX4_copyFrom : MethodName := ⟨RX4, "copyFrom", "(LPrintRoom$Machine;)V"⟩
abbrev cX4_letGoBy : ByteArray := prog_6_method_3_code
def yX4_letGoBy : MethodName := ⟨RX4, "letGoBy", "(I)V"⟩
abbrev cX4_ticksUntilGone : ByteArray := prog_6_method_4_code
def yX4_ticksUntilGone : MethodName := ⟨RX4, "ticksUntilGone", "(I)I"⟩
abbrev cX4_findWork : ByteArray := prog_6_method_5_code
def yX4_findWork : MethodName := ⟨RX4, "findWork", "()I"⟩
abbrev cX4_stopReason : ByteArray := prog_6_method_6_code
def yX4_stopReason : MethodName := ⟨RX4, "stopReason", "(LPrintRoom$Job;)I"⟩
abbrev cX4_beginSheet : ByteArray := prog_6_method_7_code
def yX4_beginSheet : MethodName := ⟨RX4, "beginSheet", "(LPrintRoom$Job;)V"⟩
abbrev cX4_beginStapling : ByteArray := prog_6_method_8_code
def yX4_beginStapling : MethodName := ⟨RX4, "beginStapling", "(LPrintRoom$Job;)V"⟩
abbrev cX4_goOnWorking : ByteArray := prog_6_method_9_code
def yX4_goOnWorking : MethodName := ⟨RX4, "goOnWorking", "(I)I"⟩
abbrev cX4_finishWork : ByteArray := prog_6_method_10_code
def yX4_finishWork : MethodName := ⟨RX4, "finishWork", "()V"⟩
abbrev cX4_finishSheet : ByteArray := prog_6_method_11_code
def yX4_finishSheet : MethodName := ⟨RX4, "finishSheet", "(LPrintRoom$Job;)V"⟩
abbrev cX4_finishStapling : ByteArray := prog_6_method_12_code
def yX4_finishStapling : MethodName := ⟨RX4, "finishStapling", "(LPrintRoom$Job;)V"⟩
abbrev cX4_removeIfFinished : ByteArray := prog_6_method_13_code
def yX4_removeIfFinished : MethodName := ⟨RX4, "removeIfFinished", "(LPrintRoom$Job;)V"⟩
abbrev cX4_interrupt : ByteArray := prog_6_method_14_code
def yX4_interrupt : MethodName := ⟨RX4, "interrupt", "(LPrintRoom$Job;)V"⟩
abbrev cX4_giveUpWorkOf : ByteArray := prog_6_method_15_code
def yX4_giveUpWorkOf : MethodName := ⟨RX4, "giveUpWorkOf", "(I)V"⟩
abbrev cX4_lackingSheets : ByteArray := prog_6_method_16_code
def yX4_lackingSheets : MethodName := ⟨RX4, "lackingSheets", "(II)I"⟩
def RX5 : String := "PrintRoom$Queue"
def TX5 : u_T := fun k => match k with
  | 0 => ("PrintRoom$Queue", "jobs", "[LPrintRoom$Job;", true)
  | 1 => ("PrintRoom$Queue", "size", "I", false)
  | 2 => ("PrintRoom$Queue", "nextNumber", "I", false)
  | _ => ("PrintRoom$Queue", "latest", "I", false)
def tyX5 : Nat → FieldType := fun k => match k with
  | 0 => .array (.object "PrintRoom$Job")
  | 1 => .int
  | 2 => .int
  | _ => .int
theorem nmX5 : ∀ a, a < 4 → ∀ b, b < 4 → a ≠ b → (TX5 a).2.1 ≠ (TX5 b).2.1 := by decide +kernel
theorem tyX5_ok : ∀ k, k < 4 → parseFieldDescriptor (TX5 k).2.2.1 = some (tyX5 k) := by decide +kernel
abbrev cX5_init : ByteArray := prog_7_method_1_code
def yX5_init : MethodName := ⟨RX5, "<init>", "()V"⟩
abbrev cX5_copyFrom : ByteArray := prog_7_method_2_code
def yX5_copyFrom : MethodName := ⟨RX5, "copyFrom", "(LPrintRoom$Queue;)V"⟩
abbrev cX5_room : ByteArray := prog_7_method_3_code
def yX5_room : MethodName := ⟨RX5, "room", "()I"⟩
abbrev cX5_append : ByteArray := prog_7_method_4_code
def yX5_append : MethodName := ⟨RX5, "append", "(LPrintRoom$Job;)I"⟩
abbrev cX5_find : ByteArray := prog_7_method_5_code
def yX5_find : MethodName := ⟨RX5, "find", "(I)LPrintRoom$Job;"⟩
abbrev cX5_remove : ByteArray := prog_7_method_6_code
def yX5_remove : MethodName := ⟨RX5, "remove", "(LPrintRoom$Job;)V"⟩
abbrev cX5_heldJobs : ByteArray := prog_7_method_7_code
def yX5_heldJobs : MethodName := ⟨RX5, "heldJobs", "()I"⟩
abbrev cX5_isAhead : ByteArray := prog_7_method_8_code
def yX5_isAhead : MethodName := ⟨RX5, "isAhead", "(LPrintRoom$Job;LPrintRoom$Job;)Z"⟩
abbrev cX5_jobsAheadOf : ByteArray := prog_7_method_9_code
def yX5_jobsAheadOf : MethodName := ⟨RX5, "jobsAheadOf", "(LPrintRoom$Job;)I"⟩
abbrev cX5_at : ByteArray := prog_7_method_10_code
def yX5_at : MethodName := ⟨RX5, "at", "(I)LPrintRoom$Job;"⟩
abbrev cX5_next : ByteArray := prog_7_method_11_code
def yX5_next : MethodName := ⟨RX5, "next", "()LPrintRoom$Job;"⟩
abbrev cX5_sheetsToPrint : ByteArray := prog_7_method_12_code
def yX5_sheetsToPrint : MethodName := ⟨RX5, "sheetsToPrint", "(II)I"⟩
def RX6 : String := "PrintRoom$Trays"
def TX6 : u_T := fun k => match k with
  | 0 => ("PrintRoom$Trays", "sizes", "[I", true)
  | 1 => ("PrintRoom$Trays", "kinds", "[I", true)
  | _ => ("PrintRoom$Trays", "sheets", "[I", true)
def tyX6 : Nat → FieldType := fun k => match k with
  | 0 => .array .int
  | 1 => .array .int
  | _ => .array .int
theorem nmX6 : ∀ a, a < 3 → ∀ b, b < 3 → a ≠ b → (TX6 a).2.1 ≠ (TX6 b).2.1 := by decide +kernel
theorem tyX6_ok : ∀ k, k < 3 → parseFieldDescriptor (TX6 k).2.2.1 = some (tyX6 k) := by decide +kernel
abbrev cX6_init : ByteArray := prog_8_method_1_code
def yX6_init : MethodName := ⟨RX6, "<init>", "()V"⟩
abbrev cX6_copyFrom : ByteArray := prog_8_method_2_code
def yX6_copyFrom : MethodName := ⟨RX6, "copyFrom", "(LPrintRoom$Trays;)V"⟩
abbrev cX6_change : ByteArray := prog_8_method_3_code
def yX6_change : MethodName := ⟨RX6, "change", "(III)I"⟩
abbrev cX6_sheetsOf : ByteArray := prog_8_method_4_code
def yX6_sheetsOf : MethodName := ⟨RX6, "sheetsOf", "(II)I"⟩
abbrev cX6_lowestWith : ByteArray := prog_8_method_5_code
def yX6_lowestWith : MethodName := ⟨RX6, "lowestWith", "(II)I"⟩
abbrev cX6_takeSheet : ByteArray := prog_8_method_6_code
def yX6_takeSheet : MethodName := ⟨RX6, "takeSheet", "(II)V"⟩
def RX7 : String := "PrintRoom"
def TX7 : u_T := fun k => match k with
  | 0 => ("PrintRoom", "machine", "LPrintRoom$Machine;", true)
  | 1 => ("PrintRoom", "trial", "LPrintRoom$Machine;", true)
  | 2 => ("PrintRoom", "history", "LPrintRoom$History;", true)
  | 3 => ("PrintRoom", "text", "LPrintRoom$JobText;", true)
  | 4 => ("PrintRoom", "draft", "LPrintRoom$Job;", true)
  | _ => ("PrintRoom", "refusalReason", "I", false)
def tyX7 : Nat → FieldType := fun k => match k with
  | 0 => .object "PrintRoom$Machine"
  | 1 => .object "PrintRoom$Machine"
  | 2 => .object "PrintRoom$History"
  | 3 => .object "PrintRoom$JobText"
  | 4 => .object "PrintRoom$Job"
  | _ => .int
theorem nmX7 : ∀ a, a < 6 → ∀ b, b < 6 → a ≠ b → (TX7 a).2.1 ≠ (TX7 b).2.1 := by decide +kernel
theorem tyX7_ok : ∀ k, k < 6 → parseFieldDescriptor (TX7 k).2.2.1 = some (tyX7 k) := by decide +kernel
abbrev cX7_init : ByteArray := prog_1_method_1_code
def yX7_init : MethodName := ⟨RX7, "<init>", "()V"⟩
abbrev cX7_fill : ByteArray := prog_1_method_2_code
def yX7_fill : MethodName := ⟨RX7, "fill", "(II)I"⟩
abbrev cX7_load : ByteArray := prog_1_method_3_code
def yX7_load : MethodName := ⟨RX7, "load", "(III)I"⟩
abbrev cX7_tray : ByteArray := prog_1_method_4_code
def yX7_tray : MethodName := ⟨RX7, "tray", "(II)I"⟩
abbrev cX7_staples : ByteArray := prog_1_method_5_code
def yX7_staples : MethodName := ⟨RX7, "staples", "(I)I"⟩
abbrev cX7_emptyBin : ByteArray := prog_1_method_6_code
def yX7_emptyBin : MethodName := ⟨RX7, "emptyBin", "()I"⟩
abbrev cX7_set : ByteArray := prog_1_method_7_code
def yX7_set : MethodName := ⟨RX7, "set", "(II)I"⟩
abbrev cX7_job : ByteArray := prog_1_method_8_code
def yX7_job : MethodName := ⟨RX7, "job", "(IIIII)I"⟩
abbrev cX7_refusal : ByteArray := prog_1_method_9_code
def yX7_refusal : MethodName := ⟨RX7, "refusal", "()I"⟩
abbrev cX7_hold : ByteArray := prog_1_method_10_code
def yX7_hold : MethodName := ⟨RX7, "hold", "(II)I"⟩
abbrev cX7_cancel : ByteArray := prog_1_method_11_code
def yX7_cancel : MethodName := ⟨RX7, "cancel", "(I)I"⟩
abbrev cX7_priority : ByteArray := prog_1_method_12_code
def yX7_priority : MethodName := ⟨RX7, "priority", "(II)I"⟩
abbrev cX7_jobInfo : ByteArray := prog_1_method_13_code
def yX7_jobInfo : MethodName := ⟨RX7, "jobInfo", "(II)I"⟩
abbrev cX7_queued : ByteArray := prog_1_method_14_code
def yX7_queued : MethodName := ⟨RX7, "queued", "(I)I"⟩
abbrev cX7_run : ByteArray := prog_1_method_15_code
def yX7_run : MethodName := ⟨RX7, "run", "(I)I"⟩
abbrev cX7_stop : ByteArray := prog_1_method_16_code
def yX7_stop : MethodName := ⟨RX7, "stop", "()I"⟩
abbrev cX7_count : ByteArray := prog_1_method_17_code
def yX7_count : MethodName := ⟨RX7, "count", "(I)I"⟩
abbrev cX7_account : ByteArray := prog_1_method_18_code
def yX7_account : MethodName := ⟨RX7, "account", "(I)I"⟩
abbrev cX7_paper : ByteArray := prog_1_method_19_code
def yX7_paper : MethodName := ⟨RX7, "paper", "(II)I"⟩
abbrev cX7_lacking : ByteArray := prog_1_method_20_code
def yX7_lacking : MethodName := ⟨RX7, "lacking", "(II)I"⟩
abbrev cX7_ticksTo : ByteArray := prog_1_method_21_code
def yX7_ticksTo : MethodName := ⟨RX7, "ticksTo", "(I)I"⟩
abbrev cX7_undo : ByteArray := prog_1_method_22_code
def yX7_undo : MethodName := ⟨RX7, "undo", "()I"⟩
abbrev cX7_type : ByteArray := prog_1_method_23_code
def yX7_type : MethodName := ⟨RX7, "type", "(I)I"⟩
abbrev cX7_clearText : ByteArray := prog_1_method_24_code
def yX7_clearText : MethodName := ⟨RX7, "clearText", "()I"⟩
abbrev cX7_fault : ByteArray := prog_1_method_25_code
def yX7_fault : MethodName := ⟨RX7, "fault", "(I)I"⟩
abbrev cX7_enter : ByteArray := prog_1_method_26_code
def yX7_enter : MethodName := ⟨RX7, "enter", "()I"⟩
abbrev cX7_settingAt : ByteArray := prog_1_method_27_code
def yX7_settingAt : MethodName := ⟨RX7, "settingAt", "(I)I"⟩
abbrev cX7_isWithin : ByteArray := prog_1_method_28_code
def yX7_isWithin : MethodName := ⟨RX7, "isWithin", "(III)Z"⟩
abbrev cX7_isBelow : ByteArray := prog_1_method_29_code
def yX7_isBelow : MethodName := ⟨RX7, "isBelow", "(II)Z"⟩
abbrev cX7_isPaper : ByteArray := prog_1_method_30_code
def yX7_isPaper : MethodName := ⟨RX7, "isPaper", "(II)Z"⟩
def RX8 : String := "PrintRoomModel"
def TX8 : u_T := fun k => match k with
  | 0 => ("PrintRoomModel", "now", "[I", true)
  | 1 => ("PrintRoomModel", "past", "[I", true)
  | 2 => ("PrintRoomModel", "aside", "[I", true)
  | 3 => ("PrintRoomModel", "saved", "I", false)
  | 4 => ("PrintRoomModel", "refused", "I", false)
  | 5 => ("PrintRoomModel", "text", "[I", true)
  | 6 => ("PrintRoomModel", "length", "I", false)
  | 7 => ("PrintRoomModel", "spot", "I", false)
  | 8 => ("PrintRoomModel", "read", "[I", true)
  | 9 => ("PrintRoomModel", "faultAt", "I", false)
  | 10 => ("PrintRoomModel", "faultWhy", "I", false)
  | _ => ("PrintRoomModel", "readMany", "I", false)
def tyX8 : Nat → FieldType := fun k => match k with
  | 0 => .array .int
  | 1 => .array .int
  | 2 => .array .int
  | 3 => .int
  | 4 => .int
  | 5 => .array .int
  | 6 => .int
  | 7 => .int
  | 8 => .array .int
  | 9 => .int
  | 10 => .int
  | _ => .int
theorem nmX8 : ∀ a, a < 12 → ∀ b, b < 12 → a ≠ b → (TX8 a).2.1 ≠ (TX8 b).2.1 := by decide +kernel
theorem tyX8_ok : ∀ k, k < 12 → parseFieldDescriptor (TX8 k).2.2.1 = some (tyX8 k) := by decide +kernel
abbrev cX8_init : ByteArray := prog_10_method_1_code
def yX8_init : MethodName := ⟨RX8, "<init>", "()V"⟩
abbrev cX8_in : ByteArray := prog_10_method_2_code
def yX8_in : MethodName := ⟨RX8, "in", "(III)Z"⟩
abbrev cX8_records : ByteArray := prog_10_method_3_code
def yX8_records : MethodName := ⟨RX8, "records", "()V"⟩
abbrev cX8_undo : ByteArray := prog_10_method_4_code
def yX8_undo : MethodName := ⟨RX8, "undo", "()I"⟩
abbrev cX8_isPaper : ByteArray := prog_10_method_5_code
def yX8_isPaper : MethodName := ⟨RX8, "isPaper", "(II)Z"⟩
abbrev cX8_isTray : ByteArray := prog_10_method_6_code
def yX8_isTray : MethodName := ⟨RX8, "isTray", "(I)Z"⟩
abbrev cX8_fill : ByteArray := prog_10_method_7_code
def yX8_fill : MethodName := ⟨RX8, "fill", "(II)I"⟩
abbrev cX8_load : ByteArray := prog_10_method_8_code
def yX8_load : MethodName := ⟨RX8, "load", "(III)I"⟩
abbrev cX8_isOf : ByteArray := prog_10_method_9_code
def yX8_isOf : MethodName := ⟨RX8, "isOf", "(III)Z"⟩
abbrev cX8_sheetsOf : ByteArray := prog_10_method_10_code
def yX8_sheetsOf : MethodName := ⟨RX8, "sheetsOf", "(II)I"⟩
abbrev cX8_tray : ByteArray := prog_10_method_11_code
def yX8_tray : MethodName := ⟨RX8, "tray", "(II)I"⟩
abbrev cX8_puts : ByteArray := prog_10_method_12_code
def yX8_puts : MethodName := ⟨RX8, "puts", "(II)I"⟩
abbrev cX8_staples : ByteArray := prog_10_method_13_code
def yX8_staples : MethodName := ⟨RX8, "staples", "(I)I"⟩
abbrev cX8_emptyBin : ByteArray := prog_10_method_14_code
def yX8_emptyBin : MethodName := ⟨RX8, "emptyBin", "()I"⟩
abbrev cX8_isSetting : ByteArray := prog_10_method_15_code
def yX8_isSetting : MethodName := ⟨RX8, "isSetting", "(II)Z"⟩
abbrev cX8_set : ByteArray := prog_10_method_16_code
def yX8_set : MethodName := ⟨RX8, "set", "(II)I"⟩
abbrev cX8_jobAt : ByteArray := prog_10_method_17_code
def yX8_jobAt : MethodName := ⟨RX8, "jobAt", "(I)I"⟩
abbrev cX8_of : ByteArray := prog_10_method_18_code
def yX8_of : MethodName := ⟨RX8, "of", "(II)I"⟩
abbrev cX8_placeOf : ByteArray := prog_10_method_19_code
def yX8_placeOf : MethodName := ⟨RX8, "placeOf", "(I)I"⟩
abbrev cX8_setOf : ByteArray := prog_10_method_20_code
def yX8_setOf : MethodName := ⟨RX8, "setOf", "(II)I"⟩
abbrev cX8_whyNot : ByteArray := prog_10_method_21_code
def yX8_whyNot : MethodName := ⟨RX8, "whyNot", "(III)I"⟩
abbrev cX8_comes : ByteArray := prog_10_method_22_code
def yX8_comes : MethodName := ⟨RX8, "comes", "(IIIII)I"⟩
abbrev cX8_isPages : ByteArray := prog_10_method_23_code
def yX8_isPages : MethodName := ⟨RX8, "isPages", "(I)Z"⟩
abbrev cX8_isCopies : ByteArray := prog_10_method_24_code
def yX8_isCopies : MethodName := ⟨RX8, "isCopies", "(I)Z"⟩
abbrev cX8_job : ByteArray := prog_10_method_25_code
def yX8_job : MethodName := ⟨RX8, "job", "(IIIII)I"⟩
abbrev cX8_refusal : ByteArray := prog_10_method_26_code
def yX8_refusal : MethodName := ⟨RX8, "refusal", "()I"⟩
abbrev cX8_goesJob : ByteArray := prog_10_method_27_code
def yX8_goesJob : MethodName := ⟨RX8, "goesJob", "(I)V"⟩
abbrev cX8_givesUp : ByteArray := prog_10_method_28_code
def yX8_givesUp : MethodName := ⟨RX8, "givesUp", "(I)V"⟩
abbrev cX8_endsWork : ByteArray := prog_10_method_29_code
def yX8_endsWork : MethodName := ⟨RX8, "endsWork", "()V"⟩
abbrev cX8_hold : ByteArray := prog_10_method_30_code
def yX8_hold : MethodName := ⟨RX8, "hold", "(II)I"⟩
abbrev cX8_cancel : ByteArray := prog_10_method_31_code
def yX8_cancel : MethodName := ⟨RX8, "cancel", "(I)I"⟩
abbrev cX8_priority : ByteArray := prog_10_method_32_code
def yX8_priority : MethodName := ⟨RX8, "priority", "(II)I"⟩
abbrev cX8_setSheets : ByteArray := prog_10_method_33_code
def yX8_setSheets : MethodName := ⟨RX8, "setSheets", "(I)I"⟩
abbrev cX8_allSheets : ByteArray := prog_10_method_34_code
def yX8_allSheets : MethodName := ⟨RX8, "allSheets", "(I)I"⟩
abbrev cX8_isGathered : ByteArray := prog_10_method_35_code
def yX8_isGathered : MethodName := ⟨RX8, "isGathered", "(I)Z"⟩
abbrev cX8_nextSheet : ByteArray := prog_10_method_36_code
def yX8_nextSheet : MethodName := ⟨RX8, "nextSheet", "(I)I"⟩
abbrev cX8_nextCopy : ByteArray := prog_10_method_37_code
def yX8_nextCopy : MethodName := ⟨RX8, "nextCopy", "(I)I"⟩
abbrev cX8_tellJob : ByteArray := prog_10_method_38_code
def yX8_tellJob : MethodName := ⟨RX8, "tellJob", "(II)I"⟩
abbrev cX8_jobInfo : ByteArray := prog_10_method_39_code
def yX8_jobInfo : MethodName := ⟨RX8, "jobInfo", "(II)I"⟩
abbrev cX8_isAhead : ByteArray := prog_10_method_40_code
def yX8_isAhead : MethodName := ⟨RX8, "isAhead", "(II)Z"⟩
abbrev cX8_queued : ByteArray := prog_10_method_41_code
def yX8_queued : MethodName := ⟨RX8, "queued", "(I)I"⟩
abbrev cX8_nextJob : ByteArray := prog_10_method_42_code
def yX8_nextJob : MethodName := ⟨RX8, "nextJob", "()I"⟩
abbrev cX8_staplesOf : ByteArray := prog_10_method_43_code
def yX8_staplesOf : MethodName := ⟨RX8, "staplesOf", "(I)I"⟩
abbrev cX8_hasSet : ByteArray := prog_10_method_44_code
def yX8_hasSet : MethodName := ⟨RX8, "hasSet", "(I)Z"⟩
abbrev cX8_whyStop : ByteArray := prog_10_method_45_code
def yX8_whyStop : MethodName := ⟨RX8, "whyStop", "(I)I"⟩
abbrev cX8_leaves : ByteArray := prog_10_method_46_code
def yX8_leaves : MethodName := ⟨RX8, "leaves", "(I)V"⟩
abbrev cX8_stapled : ByteArray := prog_10_method_47_code
def yX8_stapled : MethodName := ⟨RX8, "stapled", "(I)V"⟩
abbrev cX8_takesPaper : ByteArray := prog_10_method_48_code
def yX8_takesPaper : MethodName := ⟨RX8, "takesPaper", "(II)V"⟩
abbrev cX8_sides : ByteArray := prog_10_method_49_code
def yX8_sides : MethodName := ⟨RX8, "sides", "(I)I"⟩
abbrev cX8_beginsSheet : ByteArray := prog_10_method_50_code
def yX8_beginsSheet : MethodName := ⟨RX8, "beginsSheet", "(I)V"⟩
abbrev cX8_begins : ByteArray := prog_10_method_51_code
def yX8_begins : MethodName := ⟨RX8, "begins", "()I"⟩
abbrev cX8_finishes : ByteArray := prog_10_method_52_code
def yX8_finishes : MethodName := ⟨RX8, "finishes", "()V"⟩
abbrev cX8_goesBy : ByteArray := prog_10_method_53_code
def yX8_goesBy : MethodName := ⟨RX8, "goesBy", "(II)I"⟩
abbrev cX8_run : ByteArray := prog_10_method_54_code
def yX8_run : MethodName := ⟨RX8, "run", "(I)I"⟩
abbrev cX8_keeps : ByteArray := prog_10_method_55_code
def yX8_keeps : MethodName := ⟨RX8, "keeps", "()V"⟩
abbrev cX8_takesBack : ByteArray := prog_10_method_56_code
def yX8_takesBack : MethodName := ⟨RX8, "takesBack", "()V"⟩
abbrev cX8_stop : ByteArray := prog_10_method_57_code
def yX8_stop : MethodName := ⟨RX8, "stop", "()I"⟩
abbrev cX8_count : ByteArray := prog_10_method_58_code
def yX8_count : MethodName := ⟨RX8, "count", "(I)I"⟩
abbrev cX8_heldOnes : ByteArray := prog_10_method_59_code
def yX8_heldOnes : MethodName := ⟨RX8, "heldOnes", "()I"⟩
abbrev cX8_account : ByteArray := prog_10_method_60_code
def yX8_account : MethodName := ⟨RX8, "account", "(I)I"⟩
abbrev cX8_paper : ByteArray := prog_10_method_61_code
def yX8_paper : MethodName := ⟨RX8, "paper", "(II)I"⟩
abbrev cX8_lacking : ByteArray := prog_10_method_62_code
def yX8_lacking : MethodName := ⟨RX8, "lacking", "(II)I"⟩
abbrev cX8_ticksTo : ByteArray := prog_10_method_63_code
def yX8_ticksTo : MethodName := ⟨RX8, "ticksTo", "(I)I"⟩
abbrev cX8_type : ByteArray := prog_10_method_64_code
def yX8_type : MethodName := ⟨RX8, "type", "(I)I"⟩
abbrev cX8_clearText : ByteArray := prog_10_method_65_code
def yX8_clearText : MethodName := ⟨RX8, "clearText", "()I"⟩
abbrev cX8_isAt : ByteArray := prog_10_method_66_code
def yX8_isAt : MethodName := ⟨RX8, "isAt", "(I)Z"⟩
abbrev cX8_takes : ByteArray := prog_10_method_67_code
def yX8_takes : MethodName := ⟨RX8, "takes", "(I)Z"⟩
abbrev cX8_takesNumber : ByteArray := prog_10_method_68_code
def yX8_takesNumber : MethodName := ⟨RX8, "takesNumber", "(II)Z"⟩
abbrev cX8_letterAt : ByteArray := prog_10_method_69_code
def yX8_letterAt : MethodName := ⟨RX8, "letterAt", "(II)I"⟩
abbrev cX8_takesWord : ByteArray := prog_10_method_70_code
def yX8_takesWord : MethodName := ⟨RX8, "takesWord", "(I)Z"⟩
abbrev cX8_takesOption : ByteArray := prog_10_method_71_code
def yX8_takesOption : MethodName := ⟨RX8, "takesOption", "(I)Z"⟩
abbrev cX8_takesSize : ByteArray := prog_10_method_72_code
def yX8_takesSize : MethodName := ⟨RX8, "takesSize", "()Z"⟩
abbrev cX8_takesKind : ByteArray := prog_10_method_73_code
def yX8_takesKind : MethodName := ⟨RX8, "takesKind", "()Z"⟩
abbrev cX8_takesJob : ByteArray := prog_10_method_74_code
def yX8_takesJob : MethodName := ⟨RX8, "takesJob", "()Z"⟩
abbrev cX8_hasFault : ByteArray := prog_10_method_75_code
def yX8_hasFault : MethodName := ⟨RX8, "hasFault", "()Z"⟩
abbrev cX8_fault : ByteArray := prog_10_method_76_code
def yX8_fault : MethodName := ⟨RX8, "fault", "(I)I"⟩
abbrev cX8_enter : ByteArray := prog_10_method_77_code
def yX8_enter : MethodName := ⟨RX8, "enter", "()I"⟩
def RJ9 : String := "java/lang/Math"
def TJ9 : u_T := fun k => match k with
  | _ => ("", "", "", false)
def tyJ9 : Nat → FieldType := fun k => match k with
  | _ => .int
theorem nmJ9 : ∀ a, a < 0 → ∀ b, b < 0 → a ≠ b → (TJ9 a).2.1 ≠ (TJ9 b).2.1 := by decide +kernel
theorem tyJ9_ok : ∀ k, k < 0 → parseFieldDescriptor (TJ9 k).2.2.1 = some (tyJ9 k) := by decide +kernel
abbrev cJ9_max_7cf53 : ByteArray := prog_11_method_65_code
def yJ9_max_7cf53 : MethodName := ⟨RJ9, "max", "(II)I"⟩
abbrev cJ9_min_7cf53 : ByteArray := prog_11_method_69_code
def yJ9_min_7cf53 : MethodName := ⟨RJ9, "min", "(II)I"⟩
def RJ0 : String := "java/lang/String"
def TJ0 : u_T := fun k => match k with
  | _ => ("", "", "", false)
def tyJ0 : Nat → FieldType := fun k => match k with
  | _ => .int
theorem nmJ0 : ∀ a, a < 0 → ∀ b, b < 0 → a ≠ b → (TJ0 a).2.1 ≠ (TJ0 b).2.1 := by decide +kernel
theorem tyJ0_ok : ∀ k, k < 0 → parseFieldDescriptor (TJ0 k).2.2.1 = some (tyJ0 k) := by decide +kernel
abbrev cJ0_length_8abf5 : ByteArray := prog_12_method_54_code
def yJ0_length_8abf5 : MethodName := ⟨RJ0, "length", "()I"⟩
abbrev cJ0_charAt_5068e : ByteArray := prog_12_method_56_code
def yJ0_charAt_5068e : MethodName := ⟨RJ0, "charAt", "(I)C"⟩
abbrev cJ0_coder_7d493 : ByteArray := prog_12_method_152_code
def yJ0_coder_7d493 : MethodName := ⟨RJ0, "coder", "()B"⟩
abbrev cJ0_isLatin1_aae02 : ByteArray := prog_12_method_154_code
def yJ0_isLatin1_aae02 : MethodName := ⟨RJ0, "isLatin1", "()Z"⟩
abbrev cJ0_checkIndex_df160 : ByteArray := prog_12_method_155_code
def yJ0_checkIndex_df160 : MethodName := ⟨RJ0, "checkIndex", "(II)V"⟩
def RJ1 : String := "java/lang/StringLatin1"
def TJ1 : u_T := fun k => match k with
  | _ => ("", "", "", false)
def tyJ1 : Nat → FieldType := fun k => match k with
  | _ => .int
theorem nmJ1 : ∀ a, a < 0 → ∀ b, b < 0 → a ≠ b → (TJ1 a).2.1 ≠ (TJ1 b).2.1 := by decide +kernel
theorem tyJ1_ok : ∀ k, k < 0 → parseFieldDescriptor (TJ1 k).2.2.1 = some (tyJ1 k) := by decide +kernel
abbrev cJ1_charAt_3b067 : ByteArray := prog_13_method_2_code
def yJ1_charAt_3b067 : MethodName := ⟨RJ1, "charAt", "([BI)C"⟩
def RJ2 : String := "java/lang/StringUTF16"
def TJ2 : u_T := fun k => match k with
  | _ => ("", "", "", false)
def tyJ2 : Nat → FieldType := fun k => match k with
  | _ => .int
theorem nmJ2 : ∀ a, a < 0 → ∀ b, b < 0 → a ≠ b → (TJ2 a).2.1 ≠ (TJ2 b).2.1 := by decide +kernel
theorem tyJ2_ok : ∀ k, k < 0 → parseFieldDescriptor (TJ2 k).2.2.1 = some (tyJ2 k) := by decide +kernel
abbrev cJ2_getChar_3b067 : ByteArray := prog_14_method_5_code
def yJ2_getChar_3b067 : MethodName := ⟨RJ2, "getChar", "([BI)C"⟩
abbrev cJ2_length_9d52b : ByteArray := prog_14_method_6_code
def yJ2_length_9d52b : MethodName := ⟨RJ2, "length", "([B)I"⟩
abbrev cJ2_charAt_3b067 : ByteArray := prog_14_method_83_code
def yJ2_charAt_3b067 : MethodName := ⟨RJ2, "charAt", "([BI)C"⟩
abbrev cJ2_checkIndex_2214a : ByteArray := prog_14_method_91_code
def yJ2_checkIndex_2214a : MethodName := ⟨RJ2, "checkIndex", "(I[B)V"⟩
def RJ10 : String := "java/lang/System"
def TJ10 : u_T := fun k => match k with
  | _ => ("", "", "", false)
def tyJ10 : Nat → FieldType := fun k => match k with
  | _ => .int
theorem nmJ10 : ∀ a, a < 0 → ∀ b, b < 0 → a ≠ b → (TJ10 a).2.1 ≠ (TJ10 b).2.1 := by decide +kernel
theorem tyJ10_ok : ∀ k, k < 0 → parseFieldDescriptor (TJ10 k).2.2.1 = some (tyJ10 k) := by decide +kernel
def RJ3 : String := "jdk/internal/util/Preconditions"
def TJ3 : u_T := fun k => match k with
  | _ => ("", "", "", false)
def tyJ3 : Nat → FieldType := fun k => match k with
  | _ => .int
theorem nmJ3 : ∀ a, a < 0 → ∀ b, b < 0 → a ≠ b → (TJ3 a).2.1 ≠ (TJ3 b).2.1 := by decide +kernel
theorem tyJ3_ok : ∀ k, k < 0 → parseFieldDescriptor (TJ3 k).2.2.1 = some (tyJ3 k) := by decide +kernel
abbrev cJ3_checkIndex_8e157 : ByteArray := prog_16_method_11_code
def yJ3_checkIndex_8e157 : MethodName := ⟨RJ3, "checkIndex", "(IILjava/util/function/BiFunction;)I"⟩
def RL : String := "PrintRoomLaw"
abbrev cL_law : ByteArray := code
def yL_law : MethodName := ⟨RL, "law", "([I)Z"⟩
abbrev vwCl : List vw_C := [(RX0, TX0, 2), (RX1, TX1, 15), (RX2, TX2, 6), (RX3, TX3, 6), (RX4, TX4, 9), (RX5, TX5, 4), (RX6, TX6, 3), (RX7, TX7, 6), (RX8, TX8, 12)]
end
section
def UW : List Cond := lw_tbl.filter goodWord
theorem uw {w : Cond} (i : Nat) (h : lw_tbl[i]? = some w) (g : goodWord w = true) : w ∈ UW := List.mem_filter.mpr ⟨List.mem_of_getElem? h, g⟩
theorem uwT {w : Cond} (h : w ∈ UW) : w ∈ lw_tbl := (List.mem_filter.mp h).1
theorem uwG : GoodIn UW UW := fun _ h => ⟨h, good_of_word (List.mem_filter.mp h).2⟩
theorem uwL {ws : List Cond} (is : List Nat) (h : is.map (fun i => lw_tbl[i]?) = ws.map some) (g : ws.all goodWord = true) : ∀ w ∈ ws, w ∈ UW := by
  intro w hw
  have h1 : some w ∈ ws.map some := List.mem_map.mpr ⟨w, hw, rfl⟩
  rw [← h] at h1
  obtain ⟨i, -, hi⟩ := List.mem_map.mp h1
  exact uw i hi (List.all_eq_true.mp g w hw)
def RXs : Nat → String := fun c => match c with
  | 0 => RX0
  | 1 => RX1
  | 2 => RX2
  | 3 => RX3
  | 4 => RX4
  | 5 => RX5
  | 6 => RX6
  | 7 => RX7
  | 8 => RX8
  | _ => RL
def TXs : Nat → u_T := fun c => match c with
  | 0 => TX0
  | 1 => TX1
  | 2 => TX2
  | 3 => TX3
  | 4 => TX4
  | 5 => TX5
  | 6 => TX6
  | 7 => TX7
  | _ => TX8
def nFs : Nat → Nat := fun c => match c with
  | 0 => 2
  | 1 => 15
  | 2 => 6
  | 3 => 6
  | 4 => 9
  | 5 => 4
  | 6 => 3
  | 7 => 6
  | 8 => 12
  | _ => 0
def tyXs : Nat → Nat → FieldType := fun c => match c with
  | 0 => tyX0
  | 1 => tyX1
  | 2 => tyX2
  | 3 => tyX3
  | 4 => tyX4
  | 5 => tyX5
  | 6 => tyX6
  | 7 => tyX7
  | _ => tyX8
theorem lt9 {P : Nat → Prop} (h0 : P 0) (h1 : P 1) (h2 : P 2) (h3 : P 3) (h4 : P 4) (h5 : P 5) (h6 : P 6) (h7 : P 7) (h8 : P 8) : ∀ c, c < 9 → P c := by
  intro c hc
  rcases (show c = 0 ∨ c = 1 ∨ c = 2 ∨ c = 3 ∨ c = 4 ∨ c = 5 ∨ c = 6 ∨ c = 7 ∨ c = 8 by omega) with h | h | h | h | h | h | h | h | h <;> subst h <;> assumption
theorem clAt : ∀ c, c < 9 → vwCl[c]? = some (RXs c, TXs c, nFs c) := lt9 rfl rfl rfl rfl rfl rfl rfl rfl rfl
theorem tyOk : ∀ c, c < 9 → ∀ k, k < nFs c → parseFieldDescriptor (TXs c k).2.2.1 = some (tyXs c k) := lt9 tyX0_ok tyX1_ok tyX2_ok tyX3_ok tyX4_ok tyX5_ok tyX6_ok tyX7_ok tyX8_ok
theorem nmOk : ∀ c, c < 9 → ∀ a, a < nFs c → ∀ b, b < nFs c → a ≠ b → (TXs c a).2.1 ≠ (TXs c b).2.1 := lt9 nmX0 nmX1 nmX2 nmX3 nmX4 nmX5 nmX6 nmX7 nmX8
theorem layU0 : ∀ w ∈ u_ws RX0 TX0 2, w ∈ UW := uwL [270, 272] (by decide +kernel) (by decide +kernel)
theorem layU1 : ∀ w ∈ u_ws RX1 TX1 15, w ∈ UW := uwL [136, 138, 140, 142, 144, 146, 148, 150, 152, 154, 156, 158, 160, 162, 164] (by decide +kernel) (by decide +kernel)
theorem layU2 : ∀ w ∈ u_ws RX2 TX2 6, w ∈ UW := uwL [292, 294, 296, 298, 300, 302] (by decide +kernel) (by decide +kernel)
theorem layU3 : ∀ w ∈ u_ws RX3 TX3 6, w ∈ UW := uwL [201, 203, 205, 207, 209, 211] (by decide +kernel) (by decide +kernel)
theorem layU4 : ∀ w ∈ u_ws RX4 TX4 9, w ∈ UW := uwL [239, 241, 243, 245, 247, 249, 251, 253, 255] (by decide +kernel) (by decide +kernel)
theorem layU5 : ∀ w ∈ u_ws RX5 TX5 4, w ∈ UW := uwL [174, 176, 178, 180] (by decide +kernel) (by decide +kernel)
theorem layU6 : ∀ w ∈ u_ws RX6 TX6 3, w ∈ UW := uwL [85, 87, 89] (by decide +kernel) (by decide +kernel)
theorem layU7 : ∀ w ∈ u_ws RX7 TX7 6, w ∈ UW := uwL [314, 316, 318, 320, 322, 324] (by decide +kernel) (by decide +kernel)
theorem layU8 : ∀ w ∈ u_ws RX8 TX8 12, w ∈ UW := uwL [790, 792, 794, 796, 798, 800, 802, 804, 806, 808, 810, 812] (by decide +kernel) (by decide +kernel)
theorem layUW : ∀ c, c < 9 → ∀ w ∈ u_ws (RXs c) (TXs c) (nFs c), w ∈ UW := lt9 layU0 layU1 layU2 layU3 layU4 layU5 layU6 layU7 layU8
theorem insU0 : Cond.instantiable RX0 2 ∈ UW := uw 259 (by decide +kernel) rfl
theorem iniU0 : Cond.initialized RX0 ∈ UW := uw 51 (by decide +kernel) rfl
theorem insU1 : Cond.instantiable RX1 15 ∈ UW := uw 101 (by decide +kernel) rfl
theorem iniU1 : Cond.initialized RX1 ∈ UW := uw 48 (by decide +kernel) rfl
theorem insU2 : Cond.instantiable RX2 6 ∈ UW := uw 276 (by decide +kernel) rfl
theorem iniU2 : Cond.initialized RX2 ∈ UW := uw 52 (by decide +kernel) rfl
theorem insU3 : Cond.instantiable RX3 6 ∈ UW := uw 184 (by decide +kernel) rfl
theorem iniU3 : Cond.initialized RX3 ∈ UW := uw 49 (by decide +kernel) rfl
theorem insU4 : Cond.instantiable RX4 9 ∈ UW := uw 68 (by decide +kernel) rfl
theorem iniU4 : Cond.initialized RX4 ∈ UW := uw 45 (by decide +kernel) rfl
theorem insU5 : Cond.instantiable RX5 4 ∈ UW := uw 94 (by decide +kernel) rfl
theorem iniU5 : Cond.initialized RX5 ∈ UW := uw 47 (by decide +kernel) rfl
theorem insU6 : Cond.instantiable RX6 3 ∈ UW := uw 74 (by decide +kernel) rfl
theorem iniU6 : Cond.initialized RX6 ∈ UW := uw 46 (by decide +kernel) rfl
theorem insU7 : Cond.instantiable RX7 6 ∈ UW := uw 60 (by decide +kernel) rfl
theorem iniU7 : Cond.initialized RX7 ∈ UW := uw 44 (by decide +kernel) rfl
theorem insU8 : Cond.instantiable RX8 12 ∈ UW := uw 773 (by decide +kernel) rfl
theorem iniU8 : Cond.initialized RX8 ∈ UW := uw 53 (by decide +kernel) rfl
theorem insUW : ∀ c, c < 9 → Cond.instantiable (RXs c) (nFs c) ∈ UW := lt9 insU0 insU1 insU2 insU3 insU4 insU5 insU6 insU7 insU8
theorem iniUW : ∀ c, c < 9 → Cond.initialized (RXs c) ∈ UW := lt9 iniU0 iniU1 iniU2 iniU3 iniU4 iniU5 iniU6 iniU7 iniU8
def fldL : List (Nat × Nat × Nat × Nat × Nat) := [(0, 11, 0, 0, 267), (0, 18, 0, 1, 268), (1, 9, 1, 1, 110), (1, 15, 1, 2, 111), (1, 18, 1, 3, 112), (1, 21, 1, 4, 114), (1, 24, 1, 5, 116), (1, 27, 1, 6, 117), (1, 31, 1, 7, 118), (1, 34, 1, 8, 119), (1, 37, 1, 9, 121), (1, 40, 1, 10, 122), (1, 43, 1, 11, 124), (1, 46, 1, 12, 127), (1, 49, 1, 13, 130), (1, 52, 1, 14, 134), (1, 55, 1, 0, 106), (2, 9, 2, 0, 281), (2, 15, 2, 1, 282), (2, 23, 4, 3, 227), (2, 29, 4, 1, 222), (2, 39, 2, 2, 284), (2, 42, 2, 3, 286), (2, 45, 2, 5, 290), (2, 48, 2, 4, 288), (3, 9, 3, 0, 189), (3, 15, 3, 1, 191), (3, 18, 3, 2, 193), (3, 21, 3, 3, 195), (3, 30, 3, 4, 197), (3, 34, 3, 5, 199), (4, 12, 4, 0, 219), (4, 21, 4, 1, 221), (4, 28, 4, 2, 224), (4, 32, 4, 3, 226), (4, 36, 4, 4, 229), (4, 40, 4, 6, 233), (4, 62, 4, 5, 231), (4, 65, 4, 7, 235), (4, 68, 4, 8, 237), (4, 108, 1, 8, 120), (4, 111, 1, 3, 113), (4, 114, 1, 4, 115), (4, 127, 1, 0, 108), (4, 130, 5, 3, 173), (4, 150, 3, 5, 200), (4, 153, 1, 13, 132), (4, 159, 1, 14, 135), (5, 11, 5, 0, 167), (5, 17, 5, 3, 172), (5, 22, 5, 1, 168), (5, 25, 5, 2, 170), (5, 32, 1, 0, 107), (5, 35, 1, 12, 128), (5, 39, 1, 11, 125), (5, 54, 1, 10, 123), (5, 57, 1, 13, 133), (6, 9, 6, 0, 79), (6, 15, 6, 1, 81), (6, 18, 6, 2, 83), (7, 12, 7, 0, 308), (7, 16, 7, 1, 309), (7, 22, 7, 2, 310), (7, 29, 7, 3, 311), (7, 36, 7, 4, 312), (7, 48, 4, 0, 220), (7, 52, 6, 2, 84), (7, 69, 6, 0, 80), (7, 72, 6, 1, 82), (7, 79, 4, 4, 230), (7, 83, 4, 5, 232), (7, 92, 4, 3, 228), (7, 107, 7, 5, 313), (7, 110, 4, 1, 223), (7, 128, 1, 12, 129), (7, 136, 1, 13, 131), (7, 142, 4, 2, 225), (7, 152, 1, 11, 126), (7, 161, 1, 0, 109), (7, 164, 3, 0, 190), (7, 178, 5, 1, 169), (7, 184, 5, 2, 171), (7, 187, 4, 8, 238), (7, 190, 4, 6, 234), (7, 193, 4, 7, 236), (7, 196, 3, 4, 198), (7, 199, 0, 1, 269), (7, 202, 2, 1, 283), (7, 208, 3, 1, 192), (7, 211, 3, 2, 194), (7, 214, 3, 3, 196), (7, 234, 2, 5, 291), (7, 237, 2, 4, 289), (7, 240, 2, 3, 287), (7, 243, 2, 2, 285), (8, 7, 8, 0, 778), (8, 13, 8, 1, 779), (8, 16, 8, 2, 780), (8, 19, 8, 4, 782), (8, 23, 8, 5, 783), (8, 26, 8, 8, 786), (8, 29, 8, 3, 781), (8, 166, 8, 6, 784), (8, 169, 8, 7, 785), (8, 217, 8, 11, 789), (8, 223, 8, 9, 787), (8, 226, 8, 10, 788)]
def fldR (c i : Nat) : Option (Nat × Nat) := (fldL.find? (fun e => e.1 == c && e.2.1 == i)).map (fun e => (e.2.2.1, e.2.2.2.1))
def fldB (e : Nat × Nat × Nat × Nat × Nat) : Bool := decide (e.2.2.1 < 9) && decide (e.2.2.2.1 < nFs e.2.2.1) && decide (lw_tbl[e.2.2.2.2]? = some (Cond.fieldLink (RXs e.1) e.2.1 (TXs e.2.2.1 e.2.2.2.1).1 (TXs e.2.2.1 e.2.2.2.1).2.1 (TXs e.2.2.1 e.2.2.2.1).2.2.1))
theorem fldBs : fldL.all fldB = true := by decide +kernel
theorem fldOK {c i ci k : Nat} (h : fldR c i = some (ci, k)) : ci < 9 ∧ k < nFs ci ∧ Cond.fieldLink (RXs c) i (TXs ci k).1 (TXs ci k).2.1 (TXs ci k).2.2.1 ∈ UW := by
  unfold fldR at h
  cases hf : fldL.find? (fun e => e.1 == c && e.2.1 == i) with
  | none => rw [hf] at h; cases h
  | some e =>
    rw [hf] at h
    have h1 := List.find?_some hf
    have h2 := List.all_eq_true.mp fldBs e (List.mem_of_find?_eq_some hf)
    obtain ⟨a, b, d, f, q⟩ := e
    simp only [Option.map_some, Option.some.injEq, Prod.mk.injEq] at h
    simp only [Bool.and_eq_true, beq_iff_eq] at h1
    obtain ⟨rfl, rfl⟩ := h1
    obtain ⟨rfl, rfl⟩ := h
    simp only [fldB, Bool.and_eq_true, decide_eq_true_eq] at h2
    exact ⟨h2.1.1, h2.1.2, uw q h2.2 rfl⟩
theorem fr_0 : fldR 0 11 = some (0, 0) ∧ fldR 0 18 = some (0, 1) := ⟨rfl, rfl⟩
theorem fr_1 : fldR 1 9 = some (1, 1) ∧ fldR 1 15 = some (1, 2) ∧ fldR 1 18 = some (1, 3) ∧ fldR 1 21 = some (1, 4) ∧ fldR 1 24 = some (1, 5) ∧ fldR 1 27 = some (1, 6) ∧ fldR 1 31 = some (1, 7) ∧ fldR 1 34 = some (1, 8) ∧ fldR 1 37 = some (1, 9) ∧ fldR 1 40 = some (1, 10) ∧ fldR 1 43 = some (1, 11) ∧ fldR 1 46 = some (1, 12) ∧ fldR 1 49 = some (1, 13) ∧ fldR 1 52 = some (1, 14) ∧ fldR 1 55 = some (1, 0) := ⟨rfl, rfl, rfl, rfl, rfl, rfl, rfl, rfl, rfl, rfl, rfl, rfl, rfl, rfl, rfl⟩
theorem fr_2 : fldR 2 9 = some (2, 0) ∧ fldR 2 15 = some (2, 1) ∧ fldR 2 23 = some (4, 3) ∧ fldR 2 29 = some (4, 1) ∧ fldR 2 39 = some (2, 2) ∧ fldR 2 42 = some (2, 3) ∧ fldR 2 45 = some (2, 5) ∧ fldR 2 48 = some (2, 4) := ⟨rfl, rfl, rfl, rfl, rfl, rfl, rfl, rfl⟩
theorem fr_3 : fldR 3 9 = some (3, 0) ∧ fldR 3 15 = some (3, 1) ∧ fldR 3 18 = some (3, 2) ∧ fldR 3 21 = some (3, 3) ∧ fldR 3 30 = some (3, 4) ∧ fldR 3 34 = some (3, 5) := ⟨rfl, rfl, rfl, rfl, rfl, rfl⟩
theorem fr_4 : fldR 4 12 = some (4, 0) ∧ fldR 4 21 = some (4, 1) ∧ fldR 4 28 = some (4, 2) ∧ fldR 4 32 = some (4, 3) ∧ fldR 4 36 = some (4, 4) ∧ fldR 4 40 = some (4, 6) ∧ fldR 4 62 = some (4, 5) ∧ fldR 4 65 = some (4, 7) ∧ fldR 4 68 = some (4, 8) ∧ fldR 4 108 = some (1, 8) ∧ fldR 4 111 = some (1, 3) ∧ fldR 4 114 = some (1, 4) ∧ fldR 4 127 = some (1, 0) ∧ fldR 4 130 = some (5, 3) ∧ fldR 4 150 = some (3, 5) ∧ fldR 4 153 = some (1, 13) ∧ fldR 4 159 = some (1, 14) := ⟨rfl, rfl, rfl, rfl, rfl, rfl, rfl, rfl, rfl, rfl, rfl, rfl, rfl, rfl, rfl, rfl, rfl⟩
theorem fr_5 : fldR 5 11 = some (5, 0) ∧ fldR 5 17 = some (5, 3) ∧ fldR 5 22 = some (5, 1) ∧ fldR 5 25 = some (5, 2) ∧ fldR 5 32 = some (1, 0) ∧ fldR 5 35 = some (1, 12) ∧ fldR 5 39 = some (1, 11) ∧ fldR 5 54 = some (1, 10) ∧ fldR 5 57 = some (1, 13) := ⟨rfl, rfl, rfl, rfl, rfl, rfl, rfl, rfl, rfl⟩
theorem fr_6 : fldR 6 9 = some (6, 0) ∧ fldR 6 15 = some (6, 1) ∧ fldR 6 18 = some (6, 2) := ⟨rfl, rfl, rfl⟩
theorem fr_7 : fldR 7 12 = some (7, 0) ∧ fldR 7 16 = some (7, 1) ∧ fldR 7 22 = some (7, 2) ∧ fldR 7 29 = some (7, 3) ∧ fldR 7 36 = some (7, 4) ∧ fldR 7 48 = some (4, 0) ∧ fldR 7 52 = some (6, 2) ∧ fldR 7 69 = some (6, 0) ∧ fldR 7 72 = some (6, 1) ∧ fldR 7 79 = some (4, 4) ∧ fldR 7 83 = some (4, 5) ∧ fldR 7 92 = some (4, 3) ∧ fldR 7 107 = some (7, 5) ∧ fldR 7 110 = some (4, 1) ∧ fldR 7 128 = some (1, 12) ∧ fldR 7 136 = some (1, 13) ∧ fldR 7 142 = some (4, 2) ∧ fldR 7 152 = some (1, 11) ∧ fldR 7 161 = some (1, 0) ∧ fldR 7 164 = some (3, 0) ∧ fldR 7 178 = some (5, 1) ∧ fldR 7 184 = some (5, 2) ∧ fldR 7 187 = some (4, 8) ∧ fldR 7 190 = some (4, 6) ∧ fldR 7 193 = some (4, 7) ∧ fldR 7 196 = some (3, 4) ∧ fldR 7 199 = some (0, 1) ∧ fldR 7 202 = some (2, 1) ∧ fldR 7 208 = some (3, 1) ∧ fldR 7 211 = some (3, 2) ∧ fldR 7 214 = some (3, 3) ∧ fldR 7 234 = some (2, 5) ∧ fldR 7 237 = some (2, 4) ∧ fldR 7 240 = some (2, 3) ∧ fldR 7 243 = some (2, 2) := ⟨rfl, rfl, rfl, rfl, rfl, rfl, rfl, rfl, rfl, rfl, rfl, rfl, rfl, rfl, rfl, rfl, rfl, rfl, rfl, rfl, rfl, rfl, rfl, rfl, rfl, rfl, rfl, rfl, rfl, rfl, rfl, rfl, rfl, rfl, rfl⟩
theorem fr_8 : fldR 8 7 = some (8, 0) ∧ fldR 8 13 = some (8, 1) ∧ fldR 8 16 = some (8, 2) ∧ fldR 8 19 = some (8, 4) ∧ fldR 8 23 = some (8, 5) ∧ fldR 8 26 = some (8, 8) ∧ fldR 8 29 = some (8, 3) ∧ fldR 8 166 = some (8, 6) ∧ fldR 8 169 = some (8, 7) ∧ fldR 8 217 = some (8, 11) ∧ fldR 8 223 = some (8, 9) ∧ fldR 8 226 = some (8, 10) := ⟨rfl, rfl, rfl, rfl, rfl, rfl, rfl, rfl, rfl, rfl, rfl, rfl⟩
abbrev MI : Type := MethodName × ByteArray × Nat × Option FieldType × Nat × Nat
def miN (M : MI) : MethodName := M.1
def miB (M : MI) : ByteArray := M.2.1
def miL (M : MI) : Nat := M.2.2.1
def miR (M : MI) : Option FieldType := M.2.2.2.1
def miC (M : MI) : Nat := M.2.2.2.2.1
def miV (M : MI) : Nat := M.2.2.2.2.2
def mOK (M : MI) : Prop := plainName (miN M).cls = true ∧ Cond.code (miN M) (miB M) (miL M) (miR M) ∈ UW ∧ (miN M).cls = RXs (miC M) ∧ miL M ≤ 8
theorem mOKi {M : MI} (i : Nat) (h1 : plainName (miN M).cls = true) (h2 : lw_tbl[i]? = some (Cond.code (miN M) (miB M) (miL M) (miR M))) (h3 : (miN M).cls = RXs (miC M)) (h4 : miL M ≤ 8) : mOK M := ⟨h1, uw i h2 rfl, h3, h4⟩
def M_X0_init : MI := (yX0_init, cX0_init, 2, (Option.none : Option FieldType), 0, 4)
theorem I_X0_init : miB M_X0_init = cX0_init ∧ miL M_X0_init = 2 ∧ miR M_X0_init = (Option.none : Option FieldType) ∧ miC M_X0_init = 0 ∧ miV M_X0_init = 4 := ⟨rfl, rfl, rfl, rfl, rfl⟩
theorem ok_X0_init : mOK M_X0_init := mOKi 262 (by decide +kernel) (by decide +kernel) rfl (by decide +kernel)
def M_X0_keep : MI := (yX0_keep, cX0_keep, 2, (Option.none : Option FieldType), 0, 3)
theorem I_X0_keep : miB M_X0_keep = cX0_keep ∧ miL M_X0_keep = 2 ∧ miR M_X0_keep = (Option.none : Option FieldType) ∧ miC M_X0_keep = 0 ∧ miV M_X0_keep = 3 := ⟨rfl, rfl, rfl, rfl, rfl⟩
theorem ok_X0_keep : mOK M_X0_keep := mOKi 340 (by decide +kernel) (by decide +kernel) rfl (by decide +kernel)
def M_X0_dropOldest : MI := (yX0_dropOldest, cX0_dropOldest, 3, (Option.none : Option FieldType), 0, 0)
theorem I_X0_dropOldest : miB M_X0_dropOldest = cX0_dropOldest ∧ miL M_X0_dropOldest = 3 ∧ miR M_X0_dropOldest = (Option.none : Option FieldType) ∧ miC M_X0_dropOldest = 0 ∧ miV M_X0_dropOldest = 0 := ⟨rfl, rfl, rfl, rfl, rfl⟩
theorem ok_X0_dropOldest : mOK M_X0_dropOldest := mOKi 344 (by decide +kernel) (by decide +kernel) rfl (by decide +kernel)
def M_X0_restore : MI := (yX0_restore, cX0_restore, 2, (Option.some FieldType.boolean), 0, 3)
theorem I_X0_restore : miB M_X0_restore = cX0_restore ∧ miL M_X0_restore = 2 ∧ miR M_X0_restore = (Option.some FieldType.boolean) ∧ miC M_X0_restore = 0 ∧ miV M_X0_restore = 3 := ⟨rfl, rfl, rfl, rfl, rfl⟩
theorem ok_X0_restore : mOK M_X0_restore := mOKi 640 (by decide +kernel) (by decide +kernel) rfl (by decide +kernel)
def M_X1_init : MI := (yX1_init, cX1_init, 1, (Option.none : Option FieldType), 1, 1)
theorem I_X1_init : miB M_X1_init = cX1_init ∧ miL M_X1_init = 1 ∧ miR M_X1_init = (Option.none : Option FieldType) ∧ miC M_X1_init = 1 ∧ miV M_X1_init = 1 := ⟨rfl, rfl, rfl, rfl, rfl⟩
theorem ok_X1_init : mOK M_X1_init := mOKi 104 (by decide +kernel) (by decide +kernel) rfl (by decide +kernel)
def M_X1_describe : MI := (yX1_describe, cX1_describe, 6, (Option.none : Option FieldType), 1, 0)
theorem I_X1_describe : miB M_X1_describe = cX1_describe ∧ miL M_X1_describe = 6 ∧ miR M_X1_describe = (Option.none : Option FieldType) ∧ miC M_X1_describe = 1 ∧ miV M_X1_describe = 0 := ⟨rfl, rfl, rfl, rfl, rfl⟩
theorem ok_X1_describe : mOK M_X1_describe := mOKi 410 (by decide +kernel) (by decide +kernel) rfl (by decide +kernel)
def M_X1_copyFrom : MI := (yX1_copyFrom, cX1_copyFrom, 2, (Option.none : Option FieldType), 1, 0)
theorem I_X1_copyFrom : miB M_X1_copyFrom = cX1_copyFrom ∧ miL M_X1_copyFrom = 2 ∧ miR M_X1_copyFrom = (Option.none : Option FieldType) ∧ miC M_X1_copyFrom = 1 ∧ miV M_X1_copyFrom = 0 := ⟨rfl, rfl, rfl, rfl, rfl⟩
theorem ok_X1_copyFrom : mOK M_X1_copyFrom := mOKi 361 (by decide +kernel) (by decide +kernel) rfl (by decide +kernel)
def M_X1_isInRange : MI := (yX1_isInRange, cX1_isInRange, 1, (Option.some FieldType.boolean), 1, 1)
theorem I_X1_isInRange : miB M_X1_isInRange = cX1_isInRange ∧ miL M_X1_isInRange = 1 ∧ miR M_X1_isInRange = (Option.some FieldType.boolean) ∧ miC M_X1_isInRange = 1 ∧ miV M_X1_isInRange = 1 := ⟨rfl, rfl, rfl, rfl, rfl⟩
theorem ok_X1_isInRange : mOK M_X1_isInRange := mOKi 414 (by decide +kernel) (by decide +kernel) rfl (by decide +kernel)
def M_X1_isOn : MI := (yX1_isOn, cX1_isOn, 3, (Option.some FieldType.boolean), 1, 0)
theorem I_X1_isOn : miB M_X1_isOn = cX1_isOn ∧ miL M_X1_isOn = 3 ∧ miR M_X1_isOn = (Option.some FieldType.boolean) ∧ miC M_X1_isOn = 1 ∧ miV M_X1_isOn = 0 := ⟨rfl, rfl, rfl, rfl, rfl⟩
theorem ok_X1_isOn : mOK M_X1_isOn := mOKi 619 (by decide +kernel) (by decide +kernel) rfl (by decide +kernel)
def M_X1_staplingRefusal : MI := (yX1_staplingRefusal, cX1_staplingRefusal, 3, (Option.some FieldType.int), 1, 0)
theorem I_X1_staplingRefusal : miB M_X1_staplingRefusal = cX1_staplingRefusal ∧ miL M_X1_staplingRefusal = 3 ∧ miR M_X1_staplingRefusal = (Option.some FieldType.int) ∧ miC M_X1_staplingRefusal = 1 ∧ miV M_X1_staplingRefusal = 0 := ⟨rfl, rfl, rfl, rfl, rfl⟩
theorem ok_X1_staplingRefusal : mOK M_X1_staplingRefusal := mOKi 419 (by decide +kernel) (by decide +kernel) rfl (by decide +kernel)
def M_X1_hasSetToStaple : MI := (yX1_hasSetToStaple, cX1_hasSetToStaple, 1, (Option.some FieldType.boolean), 1, 0)
theorem I_X1_hasSetToStaple : miB M_X1_hasSetToStaple = cX1_hasSetToStaple ∧ miL M_X1_hasSetToStaple = 1 ∧ miR M_X1_hasSetToStaple = (Option.some FieldType.boolean) ∧ miC M_X1_hasSetToStaple = 1 ∧ miV M_X1_hasSetToStaple = 0 := ⟨rfl, rfl, rfl, rfl, rfl⟩
theorem ok_X1_hasSetToStaple : mOK M_X1_hasSetToStaple := mOKi 522 (by decide +kernel) (by decide +kernel) rfl (by decide +kernel)
def M_X1_isFinished : MI := (yX1_isFinished, cX1_isFinished, 1, (Option.some FieldType.boolean), 1, 0)
theorem I_X1_isFinished : miB M_X1_isFinished = cX1_isFinished ∧ miL M_X1_isFinished = 1 ∧ miR M_X1_isFinished = (Option.some FieldType.boolean) ∧ miC M_X1_isFinished = 1 ∧ miV M_X1_isFinished = 0 := ⟨rfl, rfl, rfl, rfl, rfl⟩
theorem ok_X1_isFinished : mOK M_X1_isFinished := mOKi 545 (by decide +kernel) (by decide +kernel) rfl (by decide +kernel)
def M_X1_nextSheet : MI := (yX1_nextSheet, cX1_nextSheet, 1, (Option.some FieldType.int), 1, 0)
theorem I_X1_nextSheet : miB M_X1_nextSheet = cX1_nextSheet ∧ miL M_X1_nextSheet = 1 ∧ miR M_X1_nextSheet = (Option.some FieldType.int) ∧ miC M_X1_nextSheet = 1 ∧ miV M_X1_nextSheet = 0 := ⟨rfl, rfl, rfl, rfl, rfl⟩
theorem ok_X1_nextSheet : mOK M_X1_nextSheet := mOKi 477 (by decide +kernel) (by decide +kernel) rfl (by decide +kernel)
def M_X1_nextCopy : MI := (yX1_nextCopy, cX1_nextCopy, 1, (Option.some FieldType.int), 1, 0)
theorem I_X1_nextCopy : miB M_X1_nextCopy = cX1_nextCopy ∧ miL M_X1_nextCopy = 1 ∧ miR M_X1_nextCopy = (Option.some FieldType.int) ∧ miC M_X1_nextCopy = 1 ∧ miV M_X1_nextCopy = 0 := ⟨rfl, rfl, rfl, rfl, rfl⟩
theorem ok_X1_nextCopy : mOK M_X1_nextCopy := mOKi 481 (by decide +kernel) (by decide +kernel) rfl (by decide +kernel)
def M_X1_sidesOfNextSheet : MI := (yX1_sidesOfNextSheet, cX1_sidesOfNextSheet, 2, (Option.some FieldType.int), 1, 1)
theorem I_X1_sidesOfNextSheet : miB M_X1_sidesOfNextSheet = cX1_sidesOfNextSheet ∧ miL M_X1_sidesOfNextSheet = 2 ∧ miR M_X1_sidesOfNextSheet = (Option.some FieldType.int) ∧ miC M_X1_sidesOfNextSheet = 1 ∧ miV M_X1_sidesOfNextSheet = 1 := ⟨rfl, rfl, rfl, rfl, rfl⟩
theorem ok_X1_sidesOfNextSheet : mOK M_X1_sidesOfNextSheet := mOKi 564 (by decide +kernel) (by decide +kernel) rfl (by decide +kernel)
def M_X1_property : MI := (yX1_property, cX1_property, 2, (Option.some FieldType.int), 1, 1)
theorem I_X1_property : miB M_X1_property = cX1_property ∧ miL M_X1_property = 2 ∧ miR M_X1_property = (Option.some FieldType.int) ∧ miC M_X1_property = 1 ∧ miV M_X1_property = 1 := ⟨rfl, rfl, rfl, rfl, rfl⟩
theorem ok_X1_property : mOK M_X1_property := mOKi 473 (by decide +kernel) (by decide +kernel) rfl (by decide +kernel)
def M_X2_init : MI := (yX2_init, cX2_init, 1, (Option.none : Option FieldType), 2, 1)
theorem I_X2_init : miB M_X2_init = cX2_init ∧ miL M_X2_init = 1 ∧ miR M_X2_init = (Option.none : Option FieldType) ∧ miC M_X2_init = 2 ∧ miV M_X2_init = 1 := ⟨rfl, rfl, rfl, rfl, rfl⟩
theorem ok_X2_init : mOK M_X2_init := mOKi 279 (by decide +kernel) (by decide +kernel) rfl (by decide +kernel)
def M_X2_append : MI := (yX2_append, cX2_append, 2, (Option.none : Option FieldType), 2, 1)
theorem I_X2_append : miB M_X2_append = cX2_append ∧ miL M_X2_append = 2 ∧ miR M_X2_append = (Option.none : Option FieldType) ∧ miC M_X2_append = 2 ∧ miV M_X2_append = 1 := ⟨rfl, rfl, rfl, rfl, rfl⟩
theorem ok_X2_append : mOK M_X2_append := mOKi 648 (by decide +kernel) (by decide +kernel) rfl (by decide +kernel)
def M_X2_examine : MI := (yX2_examine, cX2_examine, 6, (Option.none : Option FieldType), 2, 9)
theorem I_X2_examine : miB M_X2_examine = cX2_examine ∧ miL M_X2_examine = 6 ∧ miR M_X2_examine = (Option.none : Option FieldType) ∧ miC M_X2_examine = 2 ∧ miV M_X2_examine = 9 := ⟨rfl, rfl, rfl, rfl, rfl⟩
theorem ok_X2_examine : mOK M_X2_examine := mOKi 661 (by decide +kernel) (by decide +kernel) rfl (by decide +kernel)
def M_X2_reasonOfNext : MI := (yX2_reasonOfNext, cX2_reasonOfNext, 4, (Option.some FieldType.int), 2, 8)
theorem I_X2_reasonOfNext : miB M_X2_reasonOfNext = cX2_reasonOfNext ∧ miL M_X2_reasonOfNext = 4 ∧ miR M_X2_reasonOfNext = (Option.some FieldType.int) ∧ miC M_X2_reasonOfNext = 2 ∧ miV M_X2_reasonOfNext = 8 := ⟨rfl, rfl, rfl, rfl, rfl⟩
theorem ok_X2_reasonOfNext : mOK M_X2_reasonOfNext := mOKi 666 (by decide +kernel) (by decide +kernel) rfl (by decide +kernel)
def M_X2_readJob : MI := (yX2_readJob, cX2_readJob, 7, (Option.some FieldType.boolean), 2, 7)
theorem I_X2_readJob : miB M_X2_readJob = cX2_readJob ∧ miL M_X2_readJob = 7 ∧ miR M_X2_readJob = (Option.some FieldType.boolean) ∧ miC M_X2_readJob = 2 ∧ miV M_X2_readJob = 7 := ⟨rfl, rfl, rfl, rfl, rfl⟩
theorem ok_X2_readJob : mOK M_X2_readJob := mOKi 670 (by decide +kernel) (by decide +kernel) rfl (by decide +kernel)
def M_X2_readNumber : MI := (yX2_readNumber, cX2_readNumber, 4, (Option.some FieldType.int), 2, 6)
theorem I_X2_readNumber : miB M_X2_readNumber = cX2_readNumber ∧ miL M_X2_readNumber = 4 ∧ miR M_X2_readNumber = (Option.some FieldType.int) ∧ miC M_X2_readNumber = 2 ∧ miV M_X2_readNumber = 6 := ⟨rfl, rfl, rfl, rfl, rfl⟩
theorem ok_X2_readNumber : mOK M_X2_readNumber := mOKi 675 (by decide +kernel) (by decide +kernel) rfl (by decide +kernel)
def M_X2_digitAtPlace : MI := (yX2_digitAtPlace, cX2_digitAtPlace, 2, (Option.some FieldType.int), 2, 0)
theorem I_X2_digitAtPlace : miB M_X2_digitAtPlace = cX2_digitAtPlace ∧ miL M_X2_digitAtPlace = 2 ∧ miR M_X2_digitAtPlace = (Option.some FieldType.int) ∧ miC M_X2_digitAtPlace = 2 ∧ miV M_X2_digitAtPlace = 0 := ⟨rfl, rfl, rfl, rfl, rfl⟩
theorem ok_X2_digitAtPlace : mOK M_X2_digitAtPlace := mOKi 679 (by decide +kernel) (by decide +kernel) rfl (by decide +kernel)
def M_X2_readHow : MI := (yX2_readHow, cX2_readHow, 2, (Option.some FieldType.int), 2, 6)
theorem I_X2_readHow : miB M_X2_readHow = cX2_readHow ∧ miL M_X2_readHow = 2 ∧ miR M_X2_readHow = (Option.some FieldType.int) ∧ miC M_X2_readHow = 2 ∧ miV M_X2_readHow = 6 := ⟨rfl, rfl, rfl, rfl, rfl⟩
theorem ok_X2_readHow : mOK M_X2_readHow := mOKi 736 (by decide +kernel) (by decide +kernel) rfl (by decide +kernel)
def M_X2_readSize : MI := (yX2_readSize, cX2_readSize, 2, (Option.some FieldType.int), 2, 6)
theorem I_X2_readSize : miB M_X2_readSize = cX2_readSize ∧ miL M_X2_readSize = 2 ∧ miR M_X2_readSize = (Option.some FieldType.int) ∧ miC M_X2_readSize = 2 ∧ miV M_X2_readSize = 6 := ⟨rfl, rfl, rfl, rfl, rfl⟩
theorem ok_X2_readSize : mOK M_X2_readSize := mOKi 744 (by decide +kernel) (by decide +kernel) rfl (by decide +kernel)
def M_X2_readKind : MI := (yX2_readKind, cX2_readKind, 2, (Option.some FieldType.int), 2, 6)
theorem I_X2_readKind : miB M_X2_readKind = cX2_readKind ∧ miL M_X2_readKind = 2 ∧ miR M_X2_readKind = (Option.some FieldType.int) ∧ miC M_X2_readKind = 2 ∧ miV M_X2_readKind = 6 := ⟨rfl, rfl, rfl, rfl, rfl⟩
theorem ok_X2_readKind : mOK M_X2_readKind := mOKi 755 (by decide +kernel) (by decide +kernel) rfl (by decide +kernel)
def M_X2_sizeWord : MI := (yX2_sizeWord, cX2_sizeWord, 1, (Option.some (FieldType.object "java/lang/String")), 2, 0)
theorem I_X2_sizeWord : miB M_X2_sizeWord = cX2_sizeWord ∧ miL M_X2_sizeWord = 1 ∧ miR M_X2_sizeWord = (Option.some (FieldType.object "java/lang/String")) ∧ miC M_X2_sizeWord = 2 ∧ miV M_X2_sizeWord = 0 := ⟨rfl, rfl, rfl, rfl, rfl⟩
theorem ok_X2_sizeWord : mOK M_X2_sizeWord := mOKi 747 (by decide +kernel) (by decide +kernel) rfl (by decide +kernel)
def M_X2_kindWord : MI := (yX2_kindWord, cX2_kindWord, 1, (Option.some (FieldType.object "java/lang/String")), 2, 0)
theorem I_X2_kindWord : miB M_X2_kindWord = cX2_kindWord ∧ miL M_X2_kindWord = 1 ∧ miR M_X2_kindWord = (Option.some (FieldType.object "java/lang/String")) ∧ miC M_X2_kindWord = 2 ∧ miV M_X2_kindWord = 0 := ⟨rfl, rfl, rfl, rfl, rfl⟩
theorem ok_X2_kindWord : mOK M_X2_kindWord := mOKi 758 (by decide +kernel) (by decide +kernel) rfl (by decide +kernel)
def M_X2_skips : MI := (yX2_skips, cX2_skips, 4, (Option.some FieldType.boolean), 2, 5)
theorem I_X2_skips : miB M_X2_skips = cX2_skips ∧ miL M_X2_skips = 4 ∧ miR M_X2_skips = (Option.some FieldType.boolean) ∧ miC M_X2_skips = 2 ∧ miV M_X2_skips = 5 := ⟨rfl, rfl, rfl, rfl, rfl⟩
theorem ok_X2_skips : mOK M_X2_skips := mOKi 683 (by decide +kernel) (by decide +kernel) rfl (by decide +kernel)
def M_X3_init : MI := (yX3_init, cX3_init, 1, (Option.none : Option FieldType), 3, 1)
theorem I_X3_init : miB M_X3_init = cX3_init ∧ miL M_X3_init = 1 ∧ miR M_X3_init = (Option.none : Option FieldType) ∧ miC M_X3_init = 3 ∧ miV M_X3_init = 1 := ⟨rfl, rfl, rfl, rfl, rfl⟩
theorem ok_X3_init : mOK M_X3_init := mOKi 187 (by decide +kernel) (by decide +kernel) rfl (by decide +kernel)
def M_X3_copyFrom : MI := (yX3_copyFrom, cX3_copyFrom, 2, (Option.none : Option FieldType), 3, 1)
theorem I_X3_copyFrom : miB M_X3_copyFrom = cX3_copyFrom ∧ miL M_X3_copyFrom = 2 ∧ miR M_X3_copyFrom = (Option.none : Option FieldType) ∧ miC M_X3_copyFrom = 3 ∧ miV M_X3_copyFrom = 1 := ⟨rfl, rfl, rfl, rfl, rfl⟩
theorem ok_X3_copyFrom : mOK M_X3_copyFrom := mOKi 365 (by decide +kernel) (by decide +kernel) rfl (by decide +kernel)
def M_X3_add : MI := (yX3_add, cX3_add, 3, (Option.none : Option FieldType), 3, 1)
theorem I_X3_add : miB M_X3_add = cX3_add ∧ miL M_X3_add = 3 ∧ miR M_X3_add = (Option.none : Option FieldType) ∧ miC M_X3_add = 3 ∧ miV M_X3_add = 1 := ⟨rfl, rfl, rfl, rfl, rfl⟩
theorem ok_X3_add : mOK M_X3_add := mOKi 451 (by decide +kernel) (by decide +kernel) rfl (by decide +kernel)
def M_X3_addTakenSheet : MI := (yX3_addTakenSheet, cX3_addTakenSheet, 4, (Option.none : Option FieldType), 3, 2)
theorem I_X3_addTakenSheet : miB M_X3_addTakenSheet = cX3_addTakenSheet ∧ miL M_X3_addTakenSheet = 4 ∧ miR M_X3_addTakenSheet = (Option.none : Option FieldType) ∧ miC M_X3_addTakenSheet = 3 ∧ miV M_X3_addTakenSheet = 2 := ⟨rfl, rfl, rfl, rfl, rfl⟩
theorem ok_X3_addTakenSheet : mOK M_X3_addTakenSheet := mOKi 559 (by decide +kernel) (by decide +kernel) rfl (by decide +kernel)
def M_X4_init : MI := (yX4_init, cX4_init, 1, (Option.none : Option FieldType), 4, 3)
theorem I_X4_init : miB M_X4_init = cX4_init ∧ miL M_X4_init = 1 ∧ miR M_X4_init = (Option.none : Option FieldType) ∧ miC M_X4_init = 4 ∧ miV M_X4_init = 3 := ⟨rfl, rfl, rfl, rfl, rfl⟩
theorem ok_X4_init : mOK M_X4_init := mOKi 71 (by decide +kernel) (by decide +kernel) rfl (by decide +kernel)
def M_X4_copyFrom : MI := (yX4_copyFrom, cX4_copyFrom, 2, (Option.none : Option FieldType), 4, 2)
theorem I_X4_copyFrom : miB M_X4_copyFrom = cX4_copyFrom ∧ miL M_X4_copyFrom = 2 ∧ miR M_X4_copyFrom = (Option.none : Option FieldType) ∧ miC M_X4_copyFrom = 4 ∧ miV M_X4_copyFrom = 2 := ⟨rfl, rfl, rfl, rfl, rfl⟩
theorem ok_X4_copyFrom : mOK M_X4_copyFrom := mOKi 348 (by decide +kernel) (by decide +kernel) rfl (by decide +kernel)
def M_X4_letGoBy : MI := (yX4_letGoBy, cX4_letGoBy, 4, (Option.none : Option FieldType), 4, 6)
theorem I_X4_letGoBy : miB M_X4_letGoBy = cX4_letGoBy ∧ miL M_X4_letGoBy = 4 ∧ miR M_X4_letGoBy = (Option.none : Option FieldType) ∧ miC M_X4_letGoBy = 4 ∧ miV M_X4_letGoBy = 6 := ⟨rfl, rfl, rfl, rfl, rfl⟩
theorem ok_X4_letGoBy : mOK M_X4_letGoBy := mOKi 506 (by decide +kernel) (by decide +kernel) rfl (by decide +kernel)
def M_X4_ticksUntilGone : MI := (yX4_ticksUntilGone, cX4_ticksUntilGone, 5, (Option.some FieldType.int), 4, 6)
theorem I_X4_ticksUntilGone : miB M_X4_ticksUntilGone = cX4_ticksUntilGone ∧ miL M_X4_ticksUntilGone = 5 ∧ miR M_X4_ticksUntilGone = (Option.some FieldType.int) ∧ miC M_X4_ticksUntilGone = 4 ∧ miV M_X4_ticksUntilGone = 6 := ⟨rfl, rfl, rfl, rfl, rfl⟩
theorem ok_X4_ticksUntilGone : mOK M_X4_ticksUntilGone := mOKi 632 (by decide +kernel) (by decide +kernel) rfl (by decide +kernel)
def M_X4_findWork : MI := (yX4_findWork, cX4_findWork, 4, (Option.some FieldType.int), 4, 5)
theorem I_X4_findWork : miB M_X4_findWork = cX4_findWork ∧ miL M_X4_findWork = 4 ∧ miR M_X4_findWork = (Option.some FieldType.int) ∧ miC M_X4_findWork = 4 ∧ miV M_X4_findWork = 5 := ⟨rfl, rfl, rfl, rfl, rfl⟩
theorem ok_X4_findWork : mOK M_X4_findWork := mOKi 510 (by decide +kernel) (by decide +kernel) rfl (by decide +kernel)
def M_X4_stopReason : MI := (yX4_stopReason, cX4_stopReason, 2, (Option.some FieldType.int), 4, 1)
theorem I_X4_stopReason : miB M_X4_stopReason = cX4_stopReason ∧ miL M_X4_stopReason = 2 ∧ miR M_X4_stopReason = (Option.some FieldType.int) ∧ miC M_X4_stopReason = 4 ∧ miV M_X4_stopReason = 1 := ⟨rfl, rfl, rfl, rfl, rfl⟩
theorem ok_X4_stopReason : mOK M_X4_stopReason := mOKi 518 (by decide +kernel) (by decide +kernel) rfl (by decide +kernel)
def M_X4_beginSheet : MI := (yX4_beginSheet, cX4_beginSheet, 3, (Option.none : Option FieldType), 4, 3)
theorem I_X4_beginSheet : miB M_X4_beginSheet = cX4_beginSheet ∧ miL M_X4_beginSheet = 3 ∧ miR M_X4_beginSheet = (Option.none : Option FieldType) ∧ miC M_X4_beginSheet = 4 ∧ miV M_X4_beginSheet = 3 := ⟨rfl, rfl, rfl, rfl, rfl⟩
theorem ok_X4_beginSheet : mOK M_X4_beginSheet := mOKi 550 (by decide +kernel) (by decide +kernel) rfl (by decide +kernel)
def M_X4_beginStapling : MI := (yX4_beginStapling, cX4_beginStapling, 2, (Option.none : Option FieldType), 4, 4)
theorem I_X4_beginStapling : miB M_X4_beginStapling = cX4_beginStapling ∧ miL M_X4_beginStapling = 2 ∧ miR M_X4_beginStapling = (Option.none : Option FieldType) ∧ miC M_X4_beginStapling = 4 ∧ miV M_X4_beginStapling = 4 := ⟨rfl, rfl, rfl, rfl, rfl⟩
theorem ok_X4_beginStapling : mOK M_X4_beginStapling := mOKi 530 (by decide +kernel) (by decide +kernel) rfl (by decide +kernel)
def M_X4_goOnWorking : MI := (yX4_goOnWorking, cX4_goOnWorking, 3, (Option.some FieldType.int), 4, 5)
theorem I_X4_goOnWorking : miB M_X4_goOnWorking = cX4_goOnWorking ∧ miL M_X4_goOnWorking = 3 ∧ miR M_X4_goOnWorking = (Option.some FieldType.int) ∧ miC M_X4_goOnWorking = 4 ∧ miV M_X4_goOnWorking = 5 := ⟨rfl, rfl, rfl, rfl, rfl⟩
theorem ok_X4_goOnWorking : mOK M_X4_goOnWorking := mOKi 568 (by decide +kernel) (by decide +kernel) rfl (by decide +kernel)
def M_X4_finishWork : MI := (yX4_finishWork, cX4_finishWork, 3, (Option.none : Option FieldType), 4, 4)
theorem I_X4_finishWork : miB M_X4_finishWork = cX4_finishWork ∧ miL M_X4_finishWork = 3 ∧ miR M_X4_finishWork = (Option.none : Option FieldType) ∧ miC M_X4_finishWork = 4 ∧ miV M_X4_finishWork = 4 := ⟨rfl, rfl, rfl, rfl, rfl⟩
theorem ok_X4_finishWork : mOK M_X4_finishWork := mOKi 572 (by decide +kernel) (by decide +kernel) rfl (by decide +kernel)
def M_X4_finishSheet : MI := (yX4_finishSheet, cX4_finishSheet, 3, (Option.none : Option FieldType), 4, 3)
theorem I_X4_finishSheet : miB M_X4_finishSheet = cX4_finishSheet ∧ miL M_X4_finishSheet = 3 ∧ miR M_X4_finishSheet = (Option.none : Option FieldType) ∧ miC M_X4_finishSheet = 4 ∧ miV M_X4_finishSheet = 3 := ⟨rfl, rfl, rfl, rfl, rfl⟩
theorem ok_X4_finishSheet : mOK M_X4_finishSheet := mOKi 577 (by decide +kernel) (by decide +kernel) rfl (by decide +kernel)
def M_X4_finishStapling : MI := (yX4_finishStapling, cX4_finishStapling, 3, (Option.none : Option FieldType), 4, 3)
theorem I_X4_finishStapling : miB M_X4_finishStapling = cX4_finishStapling ∧ miL M_X4_finishStapling = 3 ∧ miR M_X4_finishStapling = (Option.none : Option FieldType) ∧ miC M_X4_finishStapling = 4 ∧ miV M_X4_finishStapling = 3 := ⟨rfl, rfl, rfl, rfl, rfl⟩
theorem ok_X4_finishStapling : mOK M_X4_finishStapling := mOKi 534 (by decide +kernel) (by decide +kernel) rfl (by decide +kernel)
def M_X4_removeIfFinished : MI := (yX4_removeIfFinished, cX4_removeIfFinished, 2, (Option.none : Option FieldType), 4, 2)
theorem I_X4_removeIfFinished : miB M_X4_removeIfFinished = cX4_removeIfFinished ∧ miL M_X4_removeIfFinished = 2 ∧ miR M_X4_removeIfFinished = (Option.none : Option FieldType) ∧ miC M_X4_removeIfFinished = 4 ∧ miV M_X4_removeIfFinished = 2 := ⟨rfl, rfl, rfl, rfl, rfl⟩
theorem ok_X4_removeIfFinished : mOK M_X4_removeIfFinished := mOKi 541 (by decide +kernel) (by decide +kernel) rfl (by decide +kernel)
def M_X4_interrupt : MI := (yX4_interrupt, cX4_interrupt, 2, (Option.none : Option FieldType), 4, 3)
theorem I_X4_interrupt : miB M_X4_interrupt = cX4_interrupt ∧ miL M_X4_interrupt = 2 ∧ miR M_X4_interrupt = (Option.none : Option FieldType) ∧ miC M_X4_interrupt = 4 ∧ miV M_X4_interrupt = 3 := ⟨rfl, rfl, rfl, rfl, rfl⟩
theorem ok_X4_interrupt : mOK M_X4_interrupt := mOKi 443 (by decide +kernel) (by decide +kernel) rfl (by decide +kernel)
def M_X4_giveUpWorkOf : MI := (yX4_giveUpWorkOf, cX4_giveUpWorkOf, 2, (Option.none : Option FieldType), 4, 2)
theorem I_X4_giveUpWorkOf : miB M_X4_giveUpWorkOf = cX4_giveUpWorkOf ∧ miL M_X4_giveUpWorkOf = 2 ∧ miR M_X4_giveUpWorkOf = (Option.none : Option FieldType) ∧ miC M_X4_giveUpWorkOf = 4 ∧ miV M_X4_giveUpWorkOf = 2 := ⟨rfl, rfl, rfl, rfl, rfl⟩
theorem ok_X4_giveUpWorkOf : mOK M_X4_giveUpWorkOf := mOKi 447 (by decide +kernel) (by decide +kernel) rfl (by decide +kernel)
def M_X4_lackingSheets : MI := (yX4_lackingSheets, cX4_lackingSheets, 5, (Option.some FieldType.int), 4, 2)
theorem I_X4_lackingSheets : miB M_X4_lackingSheets = cX4_lackingSheets ∧ miL M_X4_lackingSheets = 5 ∧ miR M_X4_lackingSheets = (Option.some FieldType.int) ∧ miC M_X4_lackingSheets = 4 ∧ miV M_X4_lackingSheets = 2 := ⟨rfl, rfl, rfl, rfl, rfl⟩
theorem ok_X4_lackingSheets : mOK M_X4_lackingSheets := mOKi 611 (by decide +kernel) (by decide +kernel) rfl (by decide +kernel)
def M_X5_init : MI := (yX5_init, cX5_init, 2, (Option.none : Option FieldType), 5, 2)
theorem I_X5_init : miB M_X5_init = cX5_init ∧ miL M_X5_init = 2 ∧ miR M_X5_init = (Option.none : Option FieldType) ∧ miC M_X5_init = 5 ∧ miV M_X5_init = 2 := ⟨rfl, rfl, rfl, rfl, rfl⟩
theorem ok_X5_init : mOK M_X5_init := mOKi 97 (by decide +kernel) (by decide +kernel) rfl (by decide +kernel)
def M_X5_copyFrom : MI := (yX5_copyFrom, cX5_copyFrom, 3, (Option.none : Option FieldType), 5, 1)
theorem I_X5_copyFrom : miB M_X5_copyFrom = cX5_copyFrom ∧ miL M_X5_copyFrom = 3 ∧ miR M_X5_copyFrom = (Option.none : Option FieldType) ∧ miC M_X5_copyFrom = 5 ∧ miV M_X5_copyFrom = 1 := ⟨rfl, rfl, rfl, rfl, rfl⟩
theorem ok_X5_copyFrom : mOK M_X5_copyFrom := mOKi 357 (by decide +kernel) (by decide +kernel) rfl (by decide +kernel)
def M_X5_room : MI := (yX5_room, cX5_room, 1, (Option.some FieldType.int), 5, 0)
theorem I_X5_room : miB M_X5_room = cX5_room ∧ miL M_X5_room = 1 ∧ miR M_X5_room = (Option.some FieldType.int) ∧ miC M_X5_room = 5 ∧ miV M_X5_room = 0 := ⟨rfl, rfl, rfl, rfl, rfl⟩
theorem ok_X5_room : mOK M_X5_room := mOKi 423 (by decide +kernel) (by decide +kernel) rfl (by decide +kernel)
def M_X5_append : MI := (yX5_append, cX5_append, 3, (Option.some FieldType.int), 5, 1)
theorem I_X5_append : miB M_X5_append = cX5_append ∧ miL M_X5_append = 3 ∧ miR M_X5_append = (Option.some FieldType.int) ∧ miC M_X5_append = 5 ∧ miV M_X5_append = 1 := ⟨rfl, rfl, rfl, rfl, rfl⟩
theorem ok_X5_append : mOK M_X5_append := mOKi 427 (by decide +kernel) (by decide +kernel) rfl (by decide +kernel)
def M_X5_find : MI := (yX5_find, cX5_find, 3, (Option.some (FieldType.object "PrintRoom$Job")), 5, 0)
theorem I_X5_find : miB M_X5_find = cX5_find ∧ miL M_X5_find = 3 ∧ miR M_X5_find = (Option.some (FieldType.object "PrintRoom$Job")) ∧ miC M_X5_find = 5 ∧ miV M_X5_find = 0 := ⟨rfl, rfl, rfl, rfl, rfl⟩
theorem ok_X5_find : mOK M_X5_find := mOKi 439 (by decide +kernel) (by decide +kernel) rfl (by decide +kernel)
def M_X5_remove : MI := (yX5_remove, cX5_remove, 4, (Option.none : Option FieldType), 5, 0)
theorem I_X5_remove : miB M_X5_remove = cX5_remove ∧ miL M_X5_remove = 4 ∧ miR M_X5_remove = (Option.none : Option FieldType) ∧ miC M_X5_remove = 5 ∧ miV M_X5_remove = 0 := ⟨rfl, rfl, rfl, rfl, rfl⟩
theorem ok_X5_remove : mOK M_X5_remove := mOKi 460 (by decide +kernel) (by decide +kernel) rfl (by decide +kernel)
def M_X5_heldJobs : MI := (yX5_heldJobs, cX5_heldJobs, 3, (Option.some FieldType.int), 5, 0)
theorem I_X5_heldJobs : miB M_X5_heldJobs = cX5_heldJobs ∧ miL M_X5_heldJobs = 3 ∧ miR M_X5_heldJobs = (Option.some FieldType.int) ∧ miC M_X5_heldJobs = 5 ∧ miV M_X5_heldJobs = 0 := ⟨rfl, rfl, rfl, rfl, rfl⟩
theorem ok_X5_heldJobs : mOK M_X5_heldJobs := mOKi 591 (by decide +kernel) (by decide +kernel) rfl (by decide +kernel)
def M_X5_isAhead : MI := (yX5_isAhead, cX5_isAhead, 3, (Option.some FieldType.boolean), 5, 0)
theorem I_X5_isAhead : miB M_X5_isAhead = cX5_isAhead ∧ miL M_X5_isAhead = 3 ∧ miR M_X5_isAhead = (Option.some FieldType.boolean) ∧ miC M_X5_isAhead = 5 ∧ miV M_X5_isAhead = 0 := ⟨rfl, rfl, rfl, rfl, rfl⟩
theorem ok_X5_isAhead : mOK M_X5_isAhead := mOKi 497 (by decide +kernel) (by decide +kernel) rfl (by decide +kernel)
def M_X5_jobsAheadOf : MI := (yX5_jobsAheadOf, cX5_jobsAheadOf, 4, (Option.some FieldType.int), 5, 1)
theorem I_X5_jobsAheadOf : miB M_X5_jobsAheadOf = cX5_jobsAheadOf ∧ miL M_X5_jobsAheadOf = 4 ∧ miR M_X5_jobsAheadOf = (Option.some FieldType.int) ∧ miC M_X5_jobsAheadOf = 5 ∧ miV M_X5_jobsAheadOf = 1 := ⟨rfl, rfl, rfl, rfl, rfl⟩
theorem ok_X5_jobsAheadOf : mOK M_X5_jobsAheadOf := mOKi 493 (by decide +kernel) (by decide +kernel) rfl (by decide +kernel)
def M_X5_at : MI := (yX5_at, cX5_at, 3, (Option.some (FieldType.object "PrintRoom$Job")), 5, 2)
theorem I_X5_at : miB M_X5_at = cX5_at ∧ miL M_X5_at = 3 ∧ miR M_X5_at = (Option.some (FieldType.object "PrintRoom$Job")) ∧ miC M_X5_at = 5 ∧ miV M_X5_at = 2 := ⟨rfl, rfl, rfl, rfl, rfl⟩
theorem ok_X5_at : mOK M_X5_at := mOKi 489 (by decide +kernel) (by decide +kernel) rfl (by decide +kernel)
def M_X5_next : MI := (yX5_next, cX5_next, 3, (Option.some (FieldType.object "PrintRoom$Job")), 5, 1)
theorem I_X5_next : miB M_X5_next = cX5_next ∧ miL M_X5_next = 3 ∧ miR M_X5_next = (Option.some (FieldType.object "PrintRoom$Job")) ∧ miC M_X5_next = 5 ∧ miV M_X5_next = 1 := ⟨rfl, rfl, rfl, rfl, rfl⟩
theorem ok_X5_next : mOK M_X5_next := mOKi 514 (by decide +kernel) (by decide +kernel) rfl (by decide +kernel)
def M_X5_sheetsToPrint : MI := (yX5_sheetsToPrint, cX5_sheetsToPrint, 5, (Option.some FieldType.int), 5, 1)
theorem I_X5_sheetsToPrint : miB M_X5_sheetsToPrint = cX5_sheetsToPrint ∧ miL M_X5_sheetsToPrint = 5 ∧ miR M_X5_sheetsToPrint = (Option.some FieldType.int) ∧ miC M_X5_sheetsToPrint = 5 ∧ miV M_X5_sheetsToPrint = 1 := ⟨rfl, rfl, rfl, rfl, rfl⟩
theorem ok_X5_sheetsToPrint : mOK M_X5_sheetsToPrint := mOKi 615 (by decide +kernel) (by decide +kernel) rfl (by decide +kernel)
def M_X6_init : MI := (yX6_init, cX6_init, 1, (Option.none : Option FieldType), 6, 1)
theorem I_X6_init : miB M_X6_init = cX6_init ∧ miL M_X6_init = 1 ∧ miR M_X6_init = (Option.none : Option FieldType) ∧ miC M_X6_init = 6 ∧ miV M_X6_init = 1 := ⟨rfl, rfl, rfl, rfl, rfl⟩
theorem ok_X6_init : mOK M_X6_init := mOKi 77 (by decide +kernel) (by decide +kernel) rfl (by decide +kernel)
def M_X6_copyFrom : MI := (yX6_copyFrom, cX6_copyFrom, 2, (Option.none : Option FieldType), 6, 1)
theorem I_X6_copyFrom : miB M_X6_copyFrom = cX6_copyFrom ∧ miL M_X6_copyFrom = 2 ∧ miR M_X6_copyFrom = (Option.none : Option FieldType) ∧ miC M_X6_copyFrom = 6 ∧ miV M_X6_copyFrom = 1 := ⟨rfl, rfl, rfl, rfl, rfl⟩
theorem ok_X6_copyFrom : mOK M_X6_copyFrom := mOKi 352 (by decide +kernel) (by decide +kernel) rfl (by decide +kernel)
def M_X6_change : MI := (yX6_change, cX6_change, 5, (Option.some FieldType.int), 6, 1)
theorem I_X6_change : miB M_X6_change = cX6_change ∧ miL M_X6_change = 5 ∧ miR M_X6_change = (Option.some FieldType.int) ∧ miC M_X6_change = 6 ∧ miV M_X6_change = 1 := ⟨rfl, rfl, rfl, rfl, rfl⟩
theorem ok_X6_change : mOK M_X6_change := mOKi 377 (by decide +kernel) (by decide +kernel) rfl (by decide +kernel)
def M_X6_sheetsOf : MI := (yX6_sheetsOf, cX6_sheetsOf, 5, (Option.some FieldType.int), 6, 0)
theorem I_X6_sheetsOf : miB M_X6_sheetsOf = cX6_sheetsOf ∧ miL M_X6_sheetsOf = 5 ∧ miR M_X6_sheetsOf = (Option.some FieldType.int) ∧ miC M_X6_sheetsOf = 6 ∧ miV M_X6_sheetsOf = 0 := ⟨rfl, rfl, rfl, rfl, rfl⟩
theorem ok_X6_sheetsOf : mOK M_X6_sheetsOf := mOKi 386 (by decide +kernel) (by decide +kernel) rfl (by decide +kernel)
def M_X6_lowestWith : MI := (yX6_lowestWith, cX6_lowestWith, 4, (Option.some FieldType.int), 6, 0)
theorem I_X6_lowestWith : miB M_X6_lowestWith = cX6_lowestWith ∧ miL M_X6_lowestWith = 4 ∧ miR M_X6_lowestWith = (Option.some FieldType.int) ∧ miC M_X6_lowestWith = 6 ∧ miV M_X6_lowestWith = 0 := ⟨rfl, rfl, rfl, rfl, rfl⟩
theorem ok_X6_lowestWith : mOK M_X6_lowestWith := mOKi 526 (by decide +kernel) (by decide +kernel) rfl (by decide +kernel)
def M_X6_takeSheet : MI := (yX6_takeSheet, cX6_takeSheet, 4, (Option.none : Option FieldType), 6, 1)
theorem I_X6_takeSheet : miB M_X6_takeSheet = cX6_takeSheet ∧ miL M_X6_takeSheet = 4 ∧ miR M_X6_takeSheet = (Option.none : Option FieldType) ∧ miC M_X6_takeSheet = 6 ∧ miV M_X6_takeSheet = 1 := ⟨rfl, rfl, rfl, rfl, rfl⟩
theorem ok_X6_takeSheet : mOK M_X6_takeSheet := mOKi 554 (by decide +kernel) (by decide +kernel) rfl (by decide +kernel)
def M_X7_init : MI := (yX7_init, cX7_init, 1, (Option.none : Option FieldType), 7, 5)
theorem I_X7_init : miB M_X7_init = cX7_init ∧ miL M_X7_init = 1 ∧ miR M_X7_init = (Option.none : Option FieldType) ∧ miC M_X7_init = 7 ∧ miV M_X7_init = 5 := ⟨rfl, rfl, rfl, rfl, rfl⟩
theorem ok_X7_init : mOK M_X7_init := mOKi 63 (by decide +kernel) (by decide +kernel) rfl (by decide +kernel)
def M_X7_fill : MI := (yX7_fill, cX7_fill, 4, (Option.some FieldType.int), 7, 4)
theorem I_X7_fill : miB M_X7_fill = cX7_fill ∧ miL M_X7_fill = 4 ∧ miR M_X7_fill = (Option.some FieldType.int) ∧ miC M_X7_fill = 7 ∧ miV M_X7_fill = 4 := ⟨rfl, rfl, rfl, rfl, rfl⟩
theorem ok_X7_fill : mOK M_X7_fill := mOKi 330 (by decide +kernel) (by decide +kernel) rfl (by decide +kernel)
def M_X7_load : MI := (yX7_load, cX7_load, 4, (Option.some FieldType.int), 7, 4)
theorem I_X7_load : miB M_X7_load = cX7_load ∧ miL M_X7_load = 4 ∧ miR M_X7_load = (Option.some FieldType.int) ∧ miC M_X7_load = 7 ∧ miV M_X7_load = 4 := ⟨rfl, rfl, rfl, rfl, rfl⟩
theorem ok_X7_load : mOK M_X7_load := mOKi 370 (by decide +kernel) (by decide +kernel) rfl (by decide +kernel)
def M_X7_tray : MI := (yX7_tray, cX7_tray, 4, (Option.some FieldType.int), 7, 1)
theorem I_X7_tray : miB M_X7_tray = cX7_tray ∧ miL M_X7_tray = 4 ∧ miR M_X7_tray = (Option.some FieldType.int) ∧ miC M_X7_tray = 7 ∧ miV M_X7_tray = 1 := ⟨rfl, rfl, rfl, rfl, rfl⟩
theorem ok_X7_tray : mOK M_X7_tray := mOKi 382 (by decide +kernel) (by decide +kernel) rfl (by decide +kernel)
def M_X7_staples : MI := (yX7_staples, cX7_staples, 3, (Option.some FieldType.int), 7, 4)
theorem I_X7_staples : miB M_X7_staples = cX7_staples ∧ miL M_X7_staples = 3 ∧ miR M_X7_staples = (Option.some FieldType.int) ∧ miC M_X7_staples = 7 ∧ miV M_X7_staples = 4 := ⟨rfl, rfl, rfl, rfl, rfl⟩
theorem ok_X7_staples : mOK M_X7_staples := mOKi 390 (by decide +kernel) (by decide +kernel) rfl (by decide +kernel)
def M_X7_emptyBin : MI := (yX7_emptyBin, cX7_emptyBin, 2, (Option.some FieldType.int), 7, 4)
theorem I_X7_emptyBin : miB M_X7_emptyBin = cX7_emptyBin ∧ miL M_X7_emptyBin = 2 ∧ miR M_X7_emptyBin = (Option.some FieldType.int) ∧ miC M_X7_emptyBin = 7 ∧ miV M_X7_emptyBin = 4 := ⟨rfl, rfl, rfl, rfl, rfl⟩
theorem ok_X7_emptyBin : mOK M_X7_emptyBin := mOKi 394 (by decide +kernel) (by decide +kernel) rfl (by decide +kernel)
def M_X7_set : MI := (yX7_set, cX7_set, 4, (Option.some FieldType.int), 7, 4)
theorem I_X7_set : miB M_X7_set = cX7_set ∧ miL M_X7_set = 4 ∧ miR M_X7_set = (Option.some FieldType.int) ∧ miC M_X7_set = 7 ∧ miV M_X7_set = 4 := ⟨rfl, rfl, rfl, rfl, rfl⟩
theorem ok_X7_set : mOK M_X7_set := mOKi 398 (by decide +kernel) (by decide +kernel) rfl (by decide +kernel)
def M_X7_job : MI := (yX7_job, cX7_job, 7, (Option.some FieldType.int), 7, 4)
theorem I_X7_job : miB M_X7_job = cX7_job ∧ miL M_X7_job = 7 ∧ miR M_X7_job = (Option.some FieldType.int) ∧ miC M_X7_job = 7 ∧ miV M_X7_job = 4 := ⟨rfl, rfl, rfl, rfl, rfl⟩
theorem ok_X7_job : mOK M_X7_job := mOKi 406 (by decide +kernel) (by decide +kernel) rfl (by decide +kernel)
def M_X7_refusal : MI := (yX7_refusal, cX7_refusal, 1, (Option.some FieldType.int), 7, 0)
theorem I_X7_refusal : miB M_X7_refusal = cX7_refusal ∧ miL M_X7_refusal = 1 ∧ miR M_X7_refusal = (Option.some FieldType.int) ∧ miC M_X7_refusal = 7 ∧ miV M_X7_refusal = 0 := ⟨rfl, rfl, rfl, rfl, rfl⟩
theorem ok_X7_refusal : mOK M_X7_refusal := mOKi 431 (by decide +kernel) (by decide +kernel) rfl (by decide +kernel)
def M_X7_hold : MI := (yX7_hold, cX7_hold, 5, (Option.some FieldType.int), 7, 4)
theorem I_X7_hold : miB M_X7_hold = cX7_hold ∧ miL M_X7_hold = 5 ∧ miR M_X7_hold = (Option.some FieldType.int) ∧ miC M_X7_hold = 7 ∧ miV M_X7_hold = 4 := ⟨rfl, rfl, rfl, rfl, rfl⟩
theorem ok_X7_hold : mOK M_X7_hold := mOKi 435 (by decide +kernel) (by decide +kernel) rfl (by decide +kernel)
def M_X7_cancel : MI := (yX7_cancel, cX7_cancel, 4, (Option.some FieldType.int), 7, 4)
theorem I_X7_cancel : miB M_X7_cancel = cX7_cancel ∧ miL M_X7_cancel = 4 ∧ miR M_X7_cancel = (Option.some FieldType.int) ∧ miC M_X7_cancel = 7 ∧ miV M_X7_cancel = 4 := ⟨rfl, rfl, rfl, rfl, rfl⟩
theorem ok_X7_cancel : mOK M_X7_cancel := mOKi 456 (by decide +kernel) (by decide +kernel) rfl (by decide +kernel)
def M_X7_priority : MI := (yX7_priority, cX7_priority, 5, (Option.some FieldType.int), 7, 4)
theorem I_X7_priority : miB M_X7_priority = cX7_priority ∧ miL M_X7_priority = 5 ∧ miR M_X7_priority = (Option.some FieldType.int) ∧ miC M_X7_priority = 7 ∧ miV M_X7_priority = 4 := ⟨rfl, rfl, rfl, rfl, rfl⟩
theorem ok_X7_priority : mOK M_X7_priority := mOKi 465 (by decide +kernel) (by decide +kernel) rfl (by decide +kernel)
def M_X7_jobInfo : MI := (yX7_jobInfo, cX7_jobInfo, 4, (Option.some FieldType.int), 7, 2)
theorem I_X7_jobInfo : miB M_X7_jobInfo = cX7_jobInfo ∧ miL M_X7_jobInfo = 4 ∧ miR M_X7_jobInfo = (Option.some FieldType.int) ∧ miC M_X7_jobInfo = 7 ∧ miV M_X7_jobInfo = 2 := ⟨rfl, rfl, rfl, rfl, rfl⟩
theorem ok_X7_jobInfo : mOK M_X7_jobInfo := mOKi 469 (by decide +kernel) (by decide +kernel) rfl (by decide +kernel)
def M_X7_queued : MI := (yX7_queued, cX7_queued, 3, (Option.some FieldType.int), 7, 3)
theorem I_X7_queued : miB M_X7_queued = cX7_queued ∧ miL M_X7_queued = 3 ∧ miR M_X7_queued = (Option.some FieldType.int) ∧ miC M_X7_queued = 7 ∧ miV M_X7_queued = 3 := ⟨rfl, rfl, rfl, rfl, rfl⟩
theorem ok_X7_queued : mOK M_X7_queued := mOKi 485 (by decide +kernel) (by decide +kernel) rfl (by decide +kernel)
def M_X7_run : MI := (yX7_run, cX7_run, 3, (Option.some FieldType.int), 7, 7)
theorem I_X7_run : miB M_X7_run = cX7_run ∧ miL M_X7_run = 3 ∧ miR M_X7_run = (Option.some FieldType.int) ∧ miC M_X7_run = 7 ∧ miV M_X7_run = 7 := ⟨rfl, rfl, rfl, rfl, rfl⟩
theorem ok_X7_run : mOK M_X7_run := mOKi 501 (by decide +kernel) (by decide +kernel) rfl (by decide +kernel)
def M_X7_stop : MI := (yX7_stop, cX7_stop, 1, (Option.some FieldType.int), 7, 6)
theorem I_X7_stop : miB M_X7_stop = cX7_stop ∧ miL M_X7_stop = 1 ∧ miR M_X7_stop = (Option.some FieldType.int) ∧ miC M_X7_stop = 7 ∧ miV M_X7_stop = 6 := ⟨rfl, rfl, rfl, rfl, rfl⟩
theorem ok_X7_stop : mOK M_X7_stop := mOKi 581 (by decide +kernel) (by decide +kernel) rfl (by decide +kernel)
def M_X7_count : MI := (yX7_count, cX7_count, 2, (Option.some FieldType.int), 7, 2)
theorem I_X7_count : miB M_X7_count = cX7_count ∧ miL M_X7_count = 2 ∧ miR M_X7_count = (Option.some FieldType.int) ∧ miC M_X7_count = 7 ∧ miV M_X7_count = 2 := ⟨rfl, rfl, rfl, rfl, rfl⟩
theorem ok_X7_count : mOK M_X7_count := mOKi 587 (by decide +kernel) (by decide +kernel) rfl (by decide +kernel)
def M_X7_account : MI := (yX7_account, cX7_account, 2, (Option.some FieldType.int), 7, 1)
theorem I_X7_account : miB M_X7_account = cX7_account ∧ miL M_X7_account = 2 ∧ miR M_X7_account = (Option.some FieldType.int) ∧ miC M_X7_account = 7 ∧ miV M_X7_account = 1 := ⟨rfl, rfl, rfl, rfl, rfl⟩
theorem ok_X7_account : mOK M_X7_account := mOKi 599 (by decide +kernel) (by decide +kernel) rfl (by decide +kernel)
def M_X7_paper : MI := (yX7_paper, cX7_paper, 4, (Option.some FieldType.int), 7, 1)
theorem I_X7_paper : miB M_X7_paper = cX7_paper ∧ miL M_X7_paper = 4 ∧ miR M_X7_paper = (Option.some FieldType.int) ∧ miC M_X7_paper = 7 ∧ miV M_X7_paper = 1 := ⟨rfl, rfl, rfl, rfl, rfl⟩
theorem ok_X7_paper : mOK M_X7_paper := mOKi 603 (by decide +kernel) (by decide +kernel) rfl (by decide +kernel)
def M_X7_lacking : MI := (yX7_lacking, cX7_lacking, 3, (Option.some FieldType.int), 7, 3)
theorem I_X7_lacking : miB M_X7_lacking = cX7_lacking ∧ miL M_X7_lacking = 3 ∧ miR M_X7_lacking = (Option.some FieldType.int) ∧ miC M_X7_lacking = 7 ∧ miV M_X7_lacking = 3 := ⟨rfl, rfl, rfl, rfl, rfl⟩
theorem ok_X7_lacking : mOK M_X7_lacking := mOKi 607 (by decide +kernel) (by decide +kernel) rfl (by decide +kernel)
def M_X7_ticksTo : MI := (yX7_ticksTo, cX7_ticksTo, 2, (Option.some FieldType.int), 7, 7)
theorem I_X7_ticksTo : miB M_X7_ticksTo = cX7_ticksTo ∧ miL M_X7_ticksTo = 2 ∧ miR M_X7_ticksTo = (Option.some FieldType.int) ∧ miC M_X7_ticksTo = 7 ∧ miV M_X7_ticksTo = 7 := ⟨rfl, rfl, rfl, rfl, rfl⟩
theorem ok_X7_ticksTo : mOK M_X7_ticksTo := mOKi 628 (by decide +kernel) (by decide +kernel) rfl (by decide +kernel)
def M_X7_undo : MI := (yX7_undo, cX7_undo, 1, (Option.some FieldType.int), 7, 4)
theorem I_X7_undo : miB M_X7_undo = cX7_undo ∧ miL M_X7_undo = 1 ∧ miR M_X7_undo = (Option.some FieldType.int) ∧ miC M_X7_undo = 7 ∧ miV M_X7_undo = 4 := ⟨rfl, rfl, rfl, rfl, rfl⟩
theorem ok_X7_undo : mOK M_X7_undo := mOKi 636 (by decide +kernel) (by decide +kernel) rfl (by decide +kernel)
def M_X7_type : MI := (yX7_type, cX7_type, 2, (Option.some FieldType.int), 7, 2)
theorem I_X7_type : miB M_X7_type = cX7_type ∧ miL M_X7_type = 2 ∧ miR M_X7_type = (Option.some FieldType.int) ∧ miC M_X7_type = 7 ∧ miV M_X7_type = 2 := ⟨rfl, rfl, rfl, rfl, rfl⟩
theorem ok_X7_type : mOK M_X7_type := mOKi 644 (by decide +kernel) (by decide +kernel) rfl (by decide +kernel)
def M_X7_clearText : MI := (yX7_clearText, cX7_clearText, 2, (Option.some FieldType.int), 7, 0)
theorem I_X7_clearText : miB M_X7_clearText = cX7_clearText ∧ miL M_X7_clearText = 2 ∧ miR M_X7_clearText = (Option.some FieldType.int) ∧ miC M_X7_clearText = 7 ∧ miV M_X7_clearText = 0 := ⟨rfl, rfl, rfl, rfl, rfl⟩
theorem ok_X7_clearText : mOK M_X7_clearText := mOKi 653 (by decide +kernel) (by decide +kernel) rfl (by decide +kernel)
def M_X7_fault : MI := (yX7_fault, cX7_fault, 2, (Option.some FieldType.int), 7, 10)
theorem I_X7_fault : miB M_X7_fault = cX7_fault ∧ miL M_X7_fault = 2 ∧ miR M_X7_fault = (Option.some FieldType.int) ∧ miC M_X7_fault = 7 ∧ miV M_X7_fault = 10 := ⟨rfl, rfl, rfl, rfl, rfl⟩
theorem ok_X7_fault : mOK M_X7_fault := mOKi 657 (by decide +kernel) (by decide +kernel) rfl (by decide +kernel)
def M_X7_enter : MI := (yX7_enter, cX7_enter, 3, (Option.some FieldType.int), 7, 10)
theorem I_X7_enter : miB M_X7_enter = cX7_enter ∧ miL M_X7_enter = 3 ∧ miR M_X7_enter = (Option.some FieldType.int) ∧ miC M_X7_enter = 7 ∧ miV M_X7_enter = 10 := ⟨rfl, rfl, rfl, rfl, rfl⟩
theorem ok_X7_enter : mOK M_X7_enter := mOKi 770 (by decide +kernel) (by decide +kernel) rfl (by decide +kernel)
def M_X7_settingAt : MI := (yX7_settingAt, cX7_settingAt, 2, (Option.some FieldType.int), 7, 1)
theorem I_X7_settingAt : miB M_X7_settingAt = cX7_settingAt ∧ miL M_X7_settingAt = 2 ∧ miR M_X7_settingAt = (Option.some FieldType.int) ∧ miC M_X7_settingAt = 7 ∧ miV M_X7_settingAt = 1 := ⟨rfl, rfl, rfl, rfl, rfl⟩
theorem ok_X7_settingAt : mOK M_X7_settingAt := mOKi 595 (by decide +kernel) (by decide +kernel) rfl (by decide +kernel)
def M_X7_isWithin : MI := (yX7_isWithin, cX7_isWithin, 3, (Option.some FieldType.boolean), 7, 0)
theorem I_X7_isWithin : miB M_X7_isWithin = cX7_isWithin ∧ miL M_X7_isWithin = 3 ∧ miR M_X7_isWithin = (Option.some FieldType.boolean) ∧ miC M_X7_isWithin = 7 ∧ miV M_X7_isWithin = 0 := ⟨rfl, rfl, rfl, rfl, rfl⟩
theorem ok_X7_isWithin : mOK M_X7_isWithin := mOKi 336 (by decide +kernel) (by decide +kernel) rfl (by decide +kernel)
def M_X7_isBelow : MI := (yX7_isBelow, cX7_isBelow, 2, (Option.some FieldType.boolean), 7, 0)
theorem I_X7_isBelow : miB M_X7_isBelow = cX7_isBelow ∧ miL M_X7_isBelow = 2 ∧ miR M_X7_isBelow = (Option.some FieldType.boolean) ∧ miC M_X7_isBelow = 7 ∧ miV M_X7_isBelow = 0 := ⟨rfl, rfl, rfl, rfl, rfl⟩
theorem ok_X7_isBelow : mOK M_X7_isBelow := mOKi 333 (by decide +kernel) (by decide +kernel) rfl (by decide +kernel)
def M_X7_isPaper : MI := (yX7_isPaper, cX7_isPaper, 2, (Option.some FieldType.boolean), 7, 1)
theorem I_X7_isPaper : miB M_X7_isPaper = cX7_isPaper ∧ miL M_X7_isPaper = 2 ∧ miR M_X7_isPaper = (Option.some FieldType.boolean) ∧ miC M_X7_isPaper = 7 ∧ miV M_X7_isPaper = 1 := ⟨rfl, rfl, rfl, rfl, rfl⟩
theorem ok_X7_isPaper : mOK M_X7_isPaper := mOKi 373 (by decide +kernel) (by decide +kernel) rfl (by decide +kernel)
def M_X8_init : MI := (yX8_init, cX8_init, 2, (Option.none : Option FieldType), 8, 1)
theorem I_X8_init : miB M_X8_init = cX8_init ∧ miL M_X8_init = 2 ∧ miR M_X8_init = (Option.none : Option FieldType) ∧ miC M_X8_init = 8 ∧ miV M_X8_init = 1 := ⟨rfl, rfl, rfl, rfl, rfl⟩
theorem ok_X8_init : mOK M_X8_init := mOKi 776 (by decide +kernel) (by decide +kernel) rfl (by decide +kernel)
def M_X8_in : MI := (yX8_in, cX8_in, 3, (Option.some FieldType.boolean), 8, 0)
theorem I_X8_in : miB M_X8_in = cX8_in ∧ miL M_X8_in = 3 ∧ miR M_X8_in = (Option.some FieldType.boolean) ∧ miC M_X8_in = 8 ∧ miV M_X8_in = 0 := ⟨rfl, rfl, rfl, rfl, rfl⟩
theorem ok_X8_in : mOK M_X8_in := mOKi 828 (by decide +kernel) (by decide +kernel) rfl (by decide +kernel)
def M_X8_records : MI := (yX8_records, cX8_records, 2, (Option.none : Option FieldType), 8, 0)
theorem I_X8_records : miB M_X8_records = cX8_records ∧ miL M_X8_records = 2 ∧ miR M_X8_records = (Option.none : Option FieldType) ∧ miC M_X8_records = 8 ∧ miV M_X8_records = 0 := ⟨rfl, rfl, rfl, rfl, rfl⟩
theorem ok_X8_records : mOK M_X8_records := mOKi 832 (by decide +kernel) (by decide +kernel) rfl (by decide +kernel)
def M_X8_undo : MI := (yX8_undo, cX8_undo, 2, (Option.some FieldType.int), 8, 0)
theorem I_X8_undo : miB M_X8_undo = cX8_undo ∧ miL M_X8_undo = 2 ∧ miR M_X8_undo = (Option.some FieldType.int) ∧ miC M_X8_undo = 8 ∧ miV M_X8_undo = 0 := ⟨rfl, rfl, rfl, rfl, rfl⟩
theorem ok_X8_undo : mOK M_X8_undo := mOKi 818 (by decide +kernel) (by decide +kernel) rfl (by decide +kernel)
def M_X8_isPaper : MI := (yX8_isPaper, cX8_isPaper, 2, (Option.some FieldType.boolean), 8, 1)
theorem I_X8_isPaper : miB M_X8_isPaper = cX8_isPaper ∧ miL M_X8_isPaper = 2 ∧ miR M_X8_isPaper = (Option.some FieldType.boolean) ∧ miC M_X8_isPaper = 8 ∧ miV M_X8_isPaper = 1 := ⟨rfl, rfl, rfl, rfl, rfl⟩
theorem ok_X8_isPaper : mOK M_X8_isPaper := mOKi 839 (by decide +kernel) (by decide +kernel) rfl (by decide +kernel)
def M_X8_isTray : MI := (yX8_isTray, cX8_isTray, 1, (Option.some FieldType.boolean), 8, 1)
theorem I_X8_isTray : miB M_X8_isTray = cX8_isTray ∧ miL M_X8_isTray = 1 ∧ miR M_X8_isTray = (Option.some FieldType.boolean) ∧ miC M_X8_isTray = 8 ∧ miV M_X8_isTray = 1 := ⟨rfl, rfl, rfl, rfl, rfl⟩
theorem ok_X8_isTray : mOK M_X8_isTray := mOKi 825 (by decide +kernel) (by decide +kernel) rfl (by decide +kernel)
def M_X8_fill : MI := (yX8_fill, cX8_fill, 4, (Option.some FieldType.int), 8, 2)
theorem I_X8_fill : miB M_X8_fill = cX8_fill ∧ miL M_X8_fill = 4 ∧ miR M_X8_fill = (Option.some FieldType.int) ∧ miC M_X8_fill = 8 ∧ miV M_X8_fill = 2 := ⟨rfl, rfl, rfl, rfl, rfl⟩
theorem ok_X8_fill : mOK M_X8_fill := mOKi 822 (by decide +kernel) (by decide +kernel) rfl (by decide +kernel)
def M_X8_load : MI := (yX8_load, cX8_load, 6, (Option.some FieldType.int), 8, 2)
theorem I_X8_load : miB M_X8_load = cX8_load ∧ miL M_X8_load = 6 ∧ miR M_X8_load = (Option.some FieldType.int) ∧ miC M_X8_load = 8 ∧ miV M_X8_load = 2 := ⟨rfl, rfl, rfl, rfl, rfl⟩
theorem ok_X8_load : mOK M_X8_load := mOKi 836 (by decide +kernel) (by decide +kernel) rfl (by decide +kernel)
def M_X8_isOf : MI := (yX8_isOf, cX8_isOf, 4, (Option.some FieldType.boolean), 8, 0)
theorem I_X8_isOf : miB M_X8_isOf = cX8_isOf ∧ miL M_X8_isOf = 4 ∧ miR M_X8_isOf = (Option.some FieldType.boolean) ∧ miC M_X8_isOf = 8 ∧ miV M_X8_isOf = 0 := ⟨rfl, rfl, rfl, rfl, rfl⟩
theorem ok_X8_isOf : mOK M_X8_isOf := mOKi 851 (by decide +kernel) (by decide +kernel) rfl (by decide +kernel)
def M_X8_sheetsOf : MI := (yX8_sheetsOf, cX8_sheetsOf, 5, (Option.some FieldType.int), 8, 1)
theorem I_X8_sheetsOf : miB M_X8_sheetsOf = cX8_sheetsOf ∧ miL M_X8_sheetsOf = 5 ∧ miR M_X8_sheetsOf = (Option.some FieldType.int) ∧ miC M_X8_sheetsOf = 8 ∧ miV M_X8_sheetsOf = 1 := ⟨rfl, rfl, rfl, rfl, rfl⟩
theorem ok_X8_sheetsOf : mOK M_X8_sheetsOf := mOKi 847 (by decide +kernel) (by decide +kernel) rfl (by decide +kernel)
def M_X8_tray : MI := (yX8_tray, cX8_tray, 4, (Option.some FieldType.int), 8, 2)
theorem I_X8_tray : miB M_X8_tray = cX8_tray ∧ miL M_X8_tray = 4 ∧ miR M_X8_tray = (Option.some FieldType.int) ∧ miC M_X8_tray = 8 ∧ miV M_X8_tray = 2 := ⟨rfl, rfl, rfl, rfl, rfl⟩
theorem ok_X8_tray : mOK M_X8_tray := mOKi 843 (by decide +kernel) (by decide +kernel) rfl (by decide +kernel)
def M_X8_puts : MI := (yX8_puts, cX8_puts, 4, (Option.some FieldType.int), 8, 1)
theorem I_X8_puts : miB M_X8_puts = cX8_puts ∧ miL M_X8_puts = 4 ∧ miR M_X8_puts = (Option.some FieldType.int) ∧ miC M_X8_puts = 8 ∧ miV M_X8_puts = 1 := ⟨rfl, rfl, rfl, rfl, rfl⟩
theorem ok_X8_puts : mOK M_X8_puts := mOKi 859 (by decide +kernel) (by decide +kernel) rfl (by decide +kernel)
def M_X8_staples : MI := (yX8_staples, cX8_staples, 2, (Option.some FieldType.int), 8, 2)
theorem I_X8_staples : miB M_X8_staples = cX8_staples ∧ miL M_X8_staples = 2 ∧ miR M_X8_staples = (Option.some FieldType.int) ∧ miC M_X8_staples = 8 ∧ miV M_X8_staples = 2 := ⟨rfl, rfl, rfl, rfl, rfl⟩
theorem ok_X8_staples : mOK M_X8_staples := mOKi 855 (by decide +kernel) (by decide +kernel) rfl (by decide +kernel)
def M_X8_emptyBin : MI := (yX8_emptyBin, cX8_emptyBin, 1, (Option.some FieldType.int), 8, 2)
theorem I_X8_emptyBin : miB M_X8_emptyBin = cX8_emptyBin ∧ miL M_X8_emptyBin = 1 ∧ miR M_X8_emptyBin = (Option.some FieldType.int) ∧ miC M_X8_emptyBin = 8 ∧ miV M_X8_emptyBin = 2 := ⟨rfl, rfl, rfl, rfl, rfl⟩
theorem ok_X8_emptyBin : mOK M_X8_emptyBin := mOKi 863 (by decide +kernel) (by decide +kernel) rfl (by decide +kernel)
def M_X8_isSetting : MI := (yX8_isSetting, cX8_isSetting, 2, (Option.some FieldType.boolean), 8, 1)
theorem I_X8_isSetting : miB M_X8_isSetting = cX8_isSetting ∧ miL M_X8_isSetting = 2 ∧ miR M_X8_isSetting = (Option.some FieldType.boolean) ∧ miC M_X8_isSetting = 8 ∧ miV M_X8_isSetting = 1 := ⟨rfl, rfl, rfl, rfl, rfl⟩
theorem ok_X8_isSetting : mOK M_X8_isSetting := mOKi 870 (by decide +kernel) (by decide +kernel) rfl (by decide +kernel)
def M_X8_set : MI := (yX8_set, cX8_set, 3, (Option.some FieldType.int), 8, 2)
theorem I_X8_set : miB M_X8_set = cX8_set ∧ miL M_X8_set = 3 ∧ miR M_X8_set = (Option.some FieldType.int) ∧ miC M_X8_set = 8 ∧ miV M_X8_set = 2 := ⟨rfl, rfl, rfl, rfl, rfl⟩
theorem ok_X8_set : mOK M_X8_set := mOKi 867 (by decide +kernel) (by decide +kernel) rfl (by decide +kernel)
def M_X8_jobAt : MI := (yX8_jobAt, cX8_jobAt, 1, (Option.some FieldType.int), 8, 0)
theorem I_X8_jobAt : miB M_X8_jobAt = cX8_jobAt ∧ miL M_X8_jobAt = 1 ∧ miR M_X8_jobAt = (Option.some FieldType.int) ∧ miC M_X8_jobAt = 8 ∧ miV M_X8_jobAt = 0 := ⟨rfl, rfl, rfl, rfl, rfl⟩
theorem ok_X8_jobAt : mOK M_X8_jobAt := mOKi 894 (by decide +kernel) (by decide +kernel) rfl (by decide +kernel)
def M_X8_of : MI := (yX8_of, cX8_of, 3, (Option.some FieldType.int), 8, 1)
theorem I_X8_of : miB M_X8_of = cX8_of ∧ miL M_X8_of = 3 ∧ miR M_X8_of = (Option.some FieldType.int) ∧ miC M_X8_of = 8 ∧ miV M_X8_of = 1 := ⟨rfl, rfl, rfl, rfl, rfl⟩
theorem ok_X8_of : mOK M_X8_of := mOKi 910 (by decide +kernel) (by decide +kernel) rfl (by decide +kernel)
def M_X8_placeOf : MI := (yX8_placeOf, cX8_placeOf, 3, (Option.some FieldType.int), 8, 2)
theorem I_X8_placeOf : miB M_X8_placeOf = cX8_placeOf ∧ miL M_X8_placeOf = 3 ∧ miR M_X8_placeOf = (Option.some FieldType.int) ∧ miC M_X8_placeOf = 8 ∧ miV M_X8_placeOf = 2 := ⟨rfl, rfl, rfl, rfl, rfl⟩
theorem ok_X8_placeOf : mOK M_X8_placeOf := mOKi 906 (by decide +kernel) (by decide +kernel) rfl (by decide +kernel)
def M_X8_setOf : MI := (yX8_setOf, cX8_setOf, 2, (Option.some FieldType.int), 8, 0)
theorem I_X8_setOf : miB M_X8_setOf = cX8_setOf ∧ miL M_X8_setOf = 2 ∧ miR M_X8_setOf = (Option.some FieldType.int) ∧ miC M_X8_setOf = 8 ∧ miV M_X8_setOf = 0 := ⟨rfl, rfl, rfl, rfl, rfl⟩
theorem ok_X8_setOf : mOK M_X8_setOf := mOKi 887 (by decide +kernel) (by decide +kernel) rfl (by decide +kernel)
def M_X8_whyNot : MI := (yX8_whyNot, cX8_whyNot, 6, (Option.some FieldType.int), 8, 1)
theorem I_X8_whyNot : miB M_X8_whyNot = cX8_whyNot ∧ miL M_X8_whyNot = 6 ∧ miR M_X8_whyNot = (Option.some FieldType.int) ∧ miC M_X8_whyNot = 8 ∧ miV M_X8_whyNot = 1 := ⟨rfl, rfl, rfl, rfl, rfl⟩
theorem ok_X8_whyNot : mOK M_X8_whyNot := mOKi 884 (by decide +kernel) (by decide +kernel) rfl (by decide +kernel)
def M_X8_comes : MI := (yX8_comes, cX8_comes, 8, (Option.some FieldType.int), 8, 1)
theorem I_X8_comes : miB M_X8_comes = cX8_comes ∧ miL M_X8_comes = 8 ∧ miR M_X8_comes = (Option.some FieldType.int) ∧ miC M_X8_comes = 8 ∧ miV M_X8_comes = 1 := ⟨rfl, rfl, rfl, rfl, rfl⟩
theorem ok_X8_comes : mOK M_X8_comes := mOKi 891 (by decide +kernel) (by decide +kernel) rfl (by decide +kernel)
def M_X8_isPages : MI := (yX8_isPages, cX8_isPages, 1, (Option.some FieldType.boolean), 8, 1)
theorem I_X8_isPages : miB M_X8_isPages = cX8_isPages ∧ miL M_X8_isPages = 1 ∧ miR M_X8_isPages = (Option.some FieldType.boolean) ∧ miC M_X8_isPages = 8 ∧ miV M_X8_isPages = 1 := ⟨rfl, rfl, rfl, rfl, rfl⟩
theorem ok_X8_isPages : mOK M_X8_isPages := mOKi 877 (by decide +kernel) (by decide +kernel) rfl (by decide +kernel)
def M_X8_isCopies : MI := (yX8_isCopies, cX8_isCopies, 1, (Option.some FieldType.boolean), 8, 1)
theorem I_X8_isCopies : miB M_X8_isCopies = cX8_isCopies ∧ miL M_X8_isCopies = 1 ∧ miR M_X8_isCopies = (Option.some FieldType.boolean) ∧ miC M_X8_isCopies = 8 ∧ miV M_X8_isCopies = 1 := ⟨rfl, rfl, rfl, rfl, rfl⟩
theorem ok_X8_isCopies : mOK M_X8_isCopies := mOKi 880 (by decide +kernel) (by decide +kernel) rfl (by decide +kernel)
def M_X8_job : MI := (yX8_job, cX8_job, 7, (Option.some FieldType.int), 8, 2)
theorem I_X8_job : miB M_X8_job = cX8_job ∧ miL M_X8_job = 7 ∧ miR M_X8_job = (Option.some FieldType.int) ∧ miC M_X8_job = 8 ∧ miV M_X8_job = 2 := ⟨rfl, rfl, rfl, rfl, rfl⟩
theorem ok_X8_job : mOK M_X8_job := mOKi 874 (by decide +kernel) (by decide +kernel) rfl (by decide +kernel)
def M_X8_refusal : MI := (yX8_refusal, cX8_refusal, 1, (Option.some FieldType.int), 8, 0)
theorem I_X8_refusal : miB M_X8_refusal = cX8_refusal ∧ miL M_X8_refusal = 1 ∧ miR M_X8_refusal = (Option.some FieldType.int) ∧ miC M_X8_refusal = 8 ∧ miV M_X8_refusal = 0 := ⟨rfl, rfl, rfl, rfl, rfl⟩
theorem ok_X8_refusal : mOK M_X8_refusal := mOKi 898 (by decide +kernel) (by decide +kernel) rfl (by decide +kernel)
def M_X8_goesJob : MI := (yX8_goesJob, cX8_goesJob, 3, (Option.none : Option FieldType), 8, 1)
theorem I_X8_goesJob : miB M_X8_goesJob = cX8_goesJob ∧ miL M_X8_goesJob = 3 ∧ miR M_X8_goesJob = (Option.none : Option FieldType) ∧ miC M_X8_goesJob = 8 ∧ miV M_X8_goesJob = 1 := ⟨rfl, rfl, rfl, rfl, rfl⟩
theorem ok_X8_goesJob : mOK M_X8_goesJob := mOKi 926 (by decide +kernel) (by decide +kernel) rfl (by decide +kernel)
def M_X8_givesUp : MI := (yX8_givesUp, cX8_givesUp, 2, (Option.none : Option FieldType), 8, 1)
theorem I_X8_givesUp : miB M_X8_givesUp = cX8_givesUp ∧ miL M_X8_givesUp = 2 ∧ miR M_X8_givesUp = (Option.none : Option FieldType) ∧ miC M_X8_givesUp = 8 ∧ miV M_X8_givesUp = 1 := ⟨rfl, rfl, rfl, rfl, rfl⟩
theorem ok_X8_givesUp : mOK M_X8_givesUp := mOKi 914 (by decide +kernel) (by decide +kernel) rfl (by decide +kernel)
def M_X8_endsWork : MI := (yX8_endsWork, cX8_endsWork, 1, (Option.none : Option FieldType), 8, 0)
theorem I_X8_endsWork : miB M_X8_endsWork = cX8_endsWork ∧ miL M_X8_endsWork = 1 ∧ miR M_X8_endsWork = (Option.none : Option FieldType) ∧ miC M_X8_endsWork = 8 ∧ miV M_X8_endsWork = 0 := ⟨rfl, rfl, rfl, rfl, rfl⟩
theorem ok_X8_endsWork : mOK M_X8_endsWork := mOKi 918 (by decide +kernel) (by decide +kernel) rfl (by decide +kernel)
def M_X8_hold : MI := (yX8_hold, cX8_hold, 5, (Option.some FieldType.int), 8, 3)
theorem I_X8_hold : miB M_X8_hold = cX8_hold ∧ miL M_X8_hold = 5 ∧ miR M_X8_hold = (Option.some FieldType.int) ∧ miC M_X8_hold = 8 ∧ miV M_X8_hold = 3 := ⟨rfl, rfl, rfl, rfl, rfl⟩
theorem ok_X8_hold : mOK M_X8_hold := mOKi 902 (by decide +kernel) (by decide +kernel) rfl (by decide +kernel)
def M_X8_cancel : MI := (yX8_cancel, cX8_cancel, 4, (Option.some FieldType.int), 8, 3)
theorem I_X8_cancel : miB M_X8_cancel = cX8_cancel ∧ miL M_X8_cancel = 4 ∧ miR M_X8_cancel = (Option.some FieldType.int) ∧ miC M_X8_cancel = 8 ∧ miV M_X8_cancel = 3 := ⟨rfl, rfl, rfl, rfl, rfl⟩
theorem ok_X8_cancel : mOK M_X8_cancel := mOKi 922 (by decide +kernel) (by decide +kernel) rfl (by decide +kernel)
def M_X8_priority : MI := (yX8_priority, cX8_priority, 4, (Option.some FieldType.int), 8, 3)
theorem I_X8_priority : miB M_X8_priority = cX8_priority ∧ miL M_X8_priority = 4 ∧ miR M_X8_priority = (Option.some FieldType.int) ∧ miC M_X8_priority = 8 ∧ miV M_X8_priority = 3 := ⟨rfl, rfl, rfl, rfl, rfl⟩
theorem ok_X8_priority : mOK M_X8_priority := mOKi 930 (by decide +kernel) (by decide +kernel) rfl (by decide +kernel)
def M_X8_setSheets : MI := (yX8_setSheets, cX8_setSheets, 2, (Option.some FieldType.int), 8, 2)
theorem I_X8_setSheets : miB M_X8_setSheets = cX8_setSheets ∧ miL M_X8_setSheets = 2 ∧ miR M_X8_setSheets = (Option.some FieldType.int) ∧ miC M_X8_setSheets = 8 ∧ miV M_X8_setSheets = 2 := ⟨rfl, rfl, rfl, rfl, rfl⟩
theorem ok_X8_setSheets : mOK M_X8_setSheets := mOKi 946 (by decide +kernel) (by decide +kernel) rfl (by decide +kernel)
def M_X8_allSheets : MI := (yX8_allSheets, cX8_allSheets, 2, (Option.some FieldType.int), 8, 3)
theorem I_X8_allSheets : miB M_X8_allSheets = cX8_allSheets ∧ miL M_X8_allSheets = 2 ∧ miR M_X8_allSheets = (Option.some FieldType.int) ∧ miC M_X8_allSheets = 8 ∧ miV M_X8_allSheets = 3 := ⟨rfl, rfl, rfl, rfl, rfl⟩
theorem ok_X8_allSheets : mOK M_X8_allSheets := mOKi 942 (by decide +kernel) (by decide +kernel) rfl (by decide +kernel)
def M_X8_isGathered : MI := (yX8_isGathered, cX8_isGathered, 2, (Option.some FieldType.boolean), 8, 2)
theorem I_X8_isGathered : miB M_X8_isGathered = cX8_isGathered ∧ miL M_X8_isGathered = 2 ∧ miR M_X8_isGathered = (Option.some FieldType.boolean) ∧ miC M_X8_isGathered = 8 ∧ miV M_X8_isGathered = 2 := ⟨rfl, rfl, rfl, rfl, rfl⟩
theorem ok_X8_isGathered : mOK M_X8_isGathered := mOKi 954 (by decide +kernel) (by decide +kernel) rfl (by decide +kernel)
def M_X8_nextSheet : MI := (yX8_nextSheet, cX8_nextSheet, 2, (Option.some FieldType.int), 8, 3)
theorem I_X8_nextSheet : miB M_X8_nextSheet = cX8_nextSheet ∧ miL M_X8_nextSheet = 2 ∧ miR M_X8_nextSheet = (Option.some FieldType.int) ∧ miC M_X8_nextSheet = 8 ∧ miV M_X8_nextSheet = 3 := ⟨rfl, rfl, rfl, rfl, rfl⟩
theorem ok_X8_nextSheet : mOK M_X8_nextSheet := mOKi 950 (by decide +kernel) (by decide +kernel) rfl (by decide +kernel)
def M_X8_nextCopy : MI := (yX8_nextCopy, cX8_nextCopy, 2, (Option.some FieldType.int), 8, 3)
theorem I_X8_nextCopy : miB M_X8_nextCopy = cX8_nextCopy ∧ miL M_X8_nextCopy = 2 ∧ miR M_X8_nextCopy = (Option.some FieldType.int) ∧ miC M_X8_nextCopy = 8 ∧ miV M_X8_nextCopy = 3 := ⟨rfl, rfl, rfl, rfl, rfl⟩
theorem ok_X8_nextCopy : mOK M_X8_nextCopy := mOKi 958 (by decide +kernel) (by decide +kernel) rfl (by decide +kernel)
def M_X8_tellJob : MI := (yX8_tellJob, cX8_tellJob, 4, (Option.some FieldType.int), 8, 4)
theorem I_X8_tellJob : miB M_X8_tellJob = cX8_tellJob ∧ miL M_X8_tellJob = 4 ∧ miR M_X8_tellJob = (Option.some FieldType.int) ∧ miC M_X8_tellJob = 8 ∧ miV M_X8_tellJob = 4 := ⟨rfl, rfl, rfl, rfl, rfl⟩
theorem ok_X8_tellJob : mOK M_X8_tellJob := mOKi 938 (by decide +kernel) (by decide +kernel) rfl (by decide +kernel)
def M_X8_jobInfo : MI := (yX8_jobInfo, cX8_jobInfo, 4, (Option.some FieldType.int), 8, 5)
theorem I_X8_jobInfo : miB M_X8_jobInfo = cX8_jobInfo ∧ miL M_X8_jobInfo = 4 ∧ miR M_X8_jobInfo = (Option.some FieldType.int) ∧ miC M_X8_jobInfo = 8 ∧ miV M_X8_jobInfo = 5 := ⟨rfl, rfl, rfl, rfl, rfl⟩
theorem ok_X8_jobInfo : mOK M_X8_jobInfo := mOKi 934 (by decide +kernel) (by decide +kernel) rfl (by decide +kernel)
def M_X8_isAhead : MI := (yX8_isAhead, cX8_isAhead, 3, (Option.some FieldType.boolean), 8, 2)
theorem I_X8_isAhead : miB M_X8_isAhead = cX8_isAhead ∧ miL M_X8_isAhead = 3 ∧ miR M_X8_isAhead = (Option.some FieldType.boolean) ∧ miC M_X8_isAhead = 8 ∧ miV M_X8_isAhead = 2 := ⟨rfl, rfl, rfl, rfl, rfl⟩
theorem ok_X8_isAhead : mOK M_X8_isAhead := mOKi 966 (by decide +kernel) (by decide +kernel) rfl (by decide +kernel)
def M_X8_queued : MI := (yX8_queued, cX8_queued, 5, (Option.some FieldType.int), 8, 3)
theorem I_X8_queued : miB M_X8_queued = cX8_queued ∧ miL M_X8_queued = 5 ∧ miR M_X8_queued = (Option.some FieldType.int) ∧ miC M_X8_queued = 8 ∧ miV M_X8_queued = 3 := ⟨rfl, rfl, rfl, rfl, rfl⟩
theorem ok_X8_queued : mOK M_X8_queued := mOKi 962 (by decide +kernel) (by decide +kernel) rfl (by decide +kernel)
def M_X8_nextJob : MI := (yX8_nextJob, cX8_nextJob, 3, (Option.some FieldType.int), 8, 3)
theorem I_X8_nextJob : miB M_X8_nextJob = cX8_nextJob ∧ miL M_X8_nextJob = 3 ∧ miR M_X8_nextJob = (Option.some FieldType.int) ∧ miC M_X8_nextJob = 8 ∧ miV M_X8_nextJob = 3 := ⟨rfl, rfl, rfl, rfl, rfl⟩
theorem ok_X8_nextJob : mOK M_X8_nextJob := mOKi 979 (by decide +kernel) (by decide +kernel) rfl (by decide +kernel)
def M_X8_staplesOf : MI := (yX8_staplesOf, cX8_staplesOf, 2, (Option.some FieldType.int), 8, 2)
theorem I_X8_staplesOf : miB M_X8_staplesOf = cX8_staplesOf ∧ miL M_X8_staplesOf = 2 ∧ miR M_X8_staplesOf = (Option.some FieldType.int) ∧ miC M_X8_staplesOf = 8 ∧ miV M_X8_staplesOf = 2 := ⟨rfl, rfl, rfl, rfl, rfl⟩
theorem ok_X8_staplesOf : mOK M_X8_staplesOf := mOKi 991 (by decide +kernel) (by decide +kernel) rfl (by decide +kernel)
def M_X8_hasSet : MI := (yX8_hasSet, cX8_hasSet, 2, (Option.some FieldType.boolean), 8, 3)
theorem I_X8_hasSet : miB M_X8_hasSet = cX8_hasSet ∧ miL M_X8_hasSet = 2 ∧ miR M_X8_hasSet = (Option.some FieldType.boolean) ∧ miC M_X8_hasSet = 8 ∧ miV M_X8_hasSet = 3 := ⟨rfl, rfl, rfl, rfl, rfl⟩
theorem ok_X8_hasSet : mOK M_X8_hasSet := mOKi 987 (by decide +kernel) (by decide +kernel) rfl (by decide +kernel)
def M_X8_whyStop : MI := (yX8_whyStop, cX8_whyStop, 2, (Option.some FieldType.int), 8, 4)
theorem I_X8_whyStop : miB M_X8_whyStop = cX8_whyStop ∧ miL M_X8_whyStop = 2 ∧ miR M_X8_whyStop = (Option.some FieldType.int) ∧ miC M_X8_whyStop = 8 ∧ miV M_X8_whyStop = 4 := ⟨rfl, rfl, rfl, rfl, rfl⟩
theorem ok_X8_whyStop : mOK M_X8_whyStop := mOKi 983 (by decide +kernel) (by decide +kernel) rfl (by decide +kernel)
def M_X8_leaves : MI := (yX8_leaves, cX8_leaves, 3, (Option.none : Option FieldType), 8, 4)
theorem I_X8_leaves : miB M_X8_leaves = cX8_leaves ∧ miL M_X8_leaves = 3 ∧ miR M_X8_leaves = (Option.none : Option FieldType) ∧ miC M_X8_leaves = 8 ∧ miV M_X8_leaves = 4 := ⟨rfl, rfl, rfl, rfl, rfl⟩
theorem ok_X8_leaves : mOK M_X8_leaves := mOKi 999 (by decide +kernel) (by decide +kernel) rfl (by decide +kernel)
def M_X8_stapled : MI := (yX8_stapled, cX8_stapled, 3, (Option.none : Option FieldType), 8, 5)
theorem I_X8_stapled : miB M_X8_stapled = cX8_stapled ∧ miL M_X8_stapled = 3 ∧ miR M_X8_stapled = (Option.none : Option FieldType) ∧ miC M_X8_stapled = 8 ∧ miV M_X8_stapled = 5 := ⟨rfl, rfl, rfl, rfl, rfl⟩
theorem ok_X8_stapled : mOK M_X8_stapled := mOKi 995 (by decide +kernel) (by decide +kernel) rfl (by decide +kernel)
def M_X8_takesPaper : MI := (yX8_takesPaper, cX8_takesPaper, 5, (Option.none : Option FieldType), 8, 1)
theorem I_X8_takesPaper : miB M_X8_takesPaper = cX8_takesPaper ∧ miL M_X8_takesPaper = 5 ∧ miR M_X8_takesPaper = (Option.none : Option FieldType) ∧ miC M_X8_takesPaper = 8 ∧ miV M_X8_takesPaper = 1 := ⟨rfl, rfl, rfl, rfl, rfl⟩
theorem ok_X8_takesPaper : mOK M_X8_takesPaper := mOKi 1007 (by decide +kernel) (by decide +kernel) rfl (by decide +kernel)
def M_X8_sides : MI := (yX8_sides, cX8_sides, 3, (Option.some FieldType.int), 8, 4)
theorem I_X8_sides : miB M_X8_sides = cX8_sides ∧ miL M_X8_sides = 3 ∧ miR M_X8_sides = (Option.some FieldType.int) ∧ miC M_X8_sides = 8 ∧ miV M_X8_sides = 4 := ⟨rfl, rfl, rfl, rfl, rfl⟩
theorem ok_X8_sides : mOK M_X8_sides := mOKi 1011 (by decide +kernel) (by decide +kernel) rfl (by decide +kernel)
def M_X8_beginsSheet : MI := (yX8_beginsSheet, cX8_beginsSheet, 3, (Option.none : Option FieldType), 8, 5)
theorem I_X8_beginsSheet : miB M_X8_beginsSheet = cX8_beginsSheet ∧ miL M_X8_beginsSheet = 3 ∧ miR M_X8_beginsSheet = (Option.none : Option FieldType) ∧ miC M_X8_beginsSheet = 8 ∧ miV M_X8_beginsSheet = 5 := ⟨rfl, rfl, rfl, rfl, rfl⟩
theorem ok_X8_beginsSheet : mOK M_X8_beginsSheet := mOKi 1003 (by decide +kernel) (by decide +kernel) rfl (by decide +kernel)
def M_X8_begins : MI := (yX8_begins, cX8_begins, 3, (Option.some FieldType.int), 8, 6)
theorem I_X8_begins : miB M_X8_begins = cX8_begins ∧ miL M_X8_begins = 3 ∧ miR M_X8_begins = (Option.some FieldType.int) ∧ miC M_X8_begins = 8 ∧ miV M_X8_begins = 6 := ⟨rfl, rfl, rfl, rfl, rfl⟩
theorem ok_X8_begins : mOK M_X8_begins := mOKi 975 (by decide +kernel) (by decide +kernel) rfl (by decide +kernel)
def M_X8_finishes : MI := (yX8_finishes, cX8_finishes, 3, (Option.none : Option FieldType), 8, 6)
theorem I_X8_finishes : miB M_X8_finishes = cX8_finishes ∧ miL M_X8_finishes = 3 ∧ miR M_X8_finishes = (Option.none : Option FieldType) ∧ miC M_X8_finishes = 8 ∧ miV M_X8_finishes = 6 := ⟨rfl, rfl, rfl, rfl, rfl⟩
theorem ok_X8_finishes : mOK M_X8_finishes := mOKi 1019 (by decide +kernel) (by decide +kernel) rfl (by decide +kernel)
def M_X8_goesBy : MI := (yX8_goesBy, cX8_goesBy, 4, (Option.some FieldType.int), 8, 7)
theorem I_X8_goesBy : miB M_X8_goesBy = cX8_goesBy ∧ miL M_X8_goesBy = 4 ∧ miR M_X8_goesBy = (Option.some FieldType.int) ∧ miC M_X8_goesBy = 8 ∧ miV M_X8_goesBy = 7 := ⟨rfl, rfl, rfl, rfl, rfl⟩
theorem ok_X8_goesBy : mOK M_X8_goesBy := mOKi 1015 (by decide +kernel) (by decide +kernel) rfl (by decide +kernel)
def M_X8_run : MI := (yX8_run, cX8_run, 4, (Option.some FieldType.int), 8, 8)
theorem I_X8_run : miB M_X8_run = cX8_run ∧ miL M_X8_run = 4 ∧ miR M_X8_run = (Option.some FieldType.int) ∧ miC M_X8_run = 8 ∧ miV M_X8_run = 8 := ⟨rfl, rfl, rfl, rfl, rfl⟩
theorem ok_X8_run : mOK M_X8_run := mOKi 970 (by decide +kernel) (by decide +kernel) rfl (by decide +kernel)
def M_X8_keeps : MI := (yX8_keeps, cX8_keeps, 2, (Option.none : Option FieldType), 8, 0)
theorem I_X8_keeps : miB M_X8_keeps = cX8_keeps ∧ miL M_X8_keeps = 2 ∧ miR M_X8_keeps = (Option.none : Option FieldType) ∧ miC M_X8_keeps = 8 ∧ miV M_X8_keeps = 0 := ⟨rfl, rfl, rfl, rfl, rfl⟩
theorem ok_X8_keeps : mOK M_X8_keeps := mOKi 1027 (by decide +kernel) (by decide +kernel) rfl (by decide +kernel)
def M_X8_takesBack : MI := (yX8_takesBack, cX8_takesBack, 2, (Option.none : Option FieldType), 8, 0)
theorem I_X8_takesBack : miB M_X8_takesBack = cX8_takesBack ∧ miL M_X8_takesBack = 2 ∧ miR M_X8_takesBack = (Option.none : Option FieldType) ∧ miC M_X8_takesBack = 8 ∧ miV M_X8_takesBack = 0 := ⟨rfl, rfl, rfl, rfl, rfl⟩
theorem ok_X8_takesBack : mOK M_X8_takesBack := mOKi 1031 (by decide +kernel) (by decide +kernel) rfl (by decide +kernel)
def M_X8_stop : MI := (yX8_stop, cX8_stop, 2, (Option.some FieldType.int), 8, 7)
theorem I_X8_stop : miB M_X8_stop = cX8_stop ∧ miL M_X8_stop = 2 ∧ miR M_X8_stop = (Option.some FieldType.int) ∧ miC M_X8_stop = 8 ∧ miV M_X8_stop = 7 := ⟨rfl, rfl, rfl, rfl, rfl⟩
theorem ok_X8_stop : mOK M_X8_stop := mOKi 1023 (by decide +kernel) (by decide +kernel) rfl (by decide +kernel)
def M_X8_count : MI := (yX8_count, cX8_count, 2, (Option.some FieldType.int), 8, 3)
theorem I_X8_count : miB M_X8_count = cX8_count ∧ miL M_X8_count = 2 ∧ miR M_X8_count = (Option.some FieldType.int) ∧ miC M_X8_count = 8 ∧ miV M_X8_count = 3 := ⟨rfl, rfl, rfl, rfl, rfl⟩
theorem ok_X8_count : mOK M_X8_count := mOKi 1035 (by decide +kernel) (by decide +kernel) rfl (by decide +kernel)
def M_X8_heldOnes : MI := (yX8_heldOnes, cX8_heldOnes, 3, (Option.some FieldType.int), 8, 2)
theorem I_X8_heldOnes : miB M_X8_heldOnes = cX8_heldOnes ∧ miL M_X8_heldOnes = 3 ∧ miR M_X8_heldOnes = (Option.some FieldType.int) ∧ miC M_X8_heldOnes = 8 ∧ miV M_X8_heldOnes = 2 := ⟨rfl, rfl, rfl, rfl, rfl⟩
theorem ok_X8_heldOnes : mOK M_X8_heldOnes := mOKi 1039 (by decide +kernel) (by decide +kernel) rfl (by decide +kernel)
def M_X8_account : MI := (yX8_account, cX8_account, 2, (Option.some FieldType.int), 8, 1)
theorem I_X8_account : miB M_X8_account = cX8_account ∧ miL M_X8_account = 2 ∧ miR M_X8_account = (Option.some FieldType.int) ∧ miC M_X8_account = 8 ∧ miV M_X8_account = 1 := ⟨rfl, rfl, rfl, rfl, rfl⟩
theorem ok_X8_account : mOK M_X8_account := mOKi 1043 (by decide +kernel) (by decide +kernel) rfl (by decide +kernel)
def M_X8_paper : MI := (yX8_paper, cX8_paper, 3, (Option.some FieldType.int), 8, 1)
theorem I_X8_paper : miB M_X8_paper = cX8_paper ∧ miL M_X8_paper = 3 ∧ miR M_X8_paper = (Option.some FieldType.int) ∧ miC M_X8_paper = 8 ∧ miV M_X8_paper = 1 := ⟨rfl, rfl, rfl, rfl, rfl⟩
theorem ok_X8_paper : mOK M_X8_paper := mOKi 1047 (by decide +kernel) (by decide +kernel) rfl (by decide +kernel)
def M_X8_lacking : MI := (yX8_lacking, cX8_lacking, 7, (Option.some FieldType.int), 8, 4)
theorem I_X8_lacking : miB M_X8_lacking = cX8_lacking ∧ miL M_X8_lacking = 7 ∧ miR M_X8_lacking = (Option.some FieldType.int) ∧ miC M_X8_lacking = 8 ∧ miV M_X8_lacking = 4 := ⟨rfl, rfl, rfl, rfl, rfl⟩
theorem ok_X8_lacking : mOK M_X8_lacking := mOKi 1051 (by decide +kernel) (by decide +kernel) rfl (by decide +kernel)
def M_X8_ticksTo : MI := (yX8_ticksTo, cX8_ticksTo, 4, (Option.some FieldType.int), 8, 8)
theorem I_X8_ticksTo : miB M_X8_ticksTo = cX8_ticksTo ∧ miL M_X8_ticksTo = 4 ∧ miR M_X8_ticksTo = (Option.some FieldType.int) ∧ miC M_X8_ticksTo = 8 ∧ miV M_X8_ticksTo = 8 := ⟨rfl, rfl, rfl, rfl, rfl⟩
theorem ok_X8_ticksTo : mOK M_X8_ticksTo := mOKi 1055 (by decide +kernel) (by decide +kernel) rfl (by decide +kernel)
def M_X8_type : MI := (yX8_type, cX8_type, 2, (Option.some FieldType.int), 8, 1)
theorem I_X8_type : miB M_X8_type = cX8_type ∧ miL M_X8_type = 2 ∧ miR M_X8_type = (Option.some FieldType.int) ∧ miC M_X8_type = 8 ∧ miV M_X8_type = 1 := ⟨rfl, rfl, rfl, rfl, rfl⟩
theorem ok_X8_type : mOK M_X8_type := mOKi 1059 (by decide +kernel) (by decide +kernel) rfl (by decide +kernel)
def M_X8_clearText : MI := (yX8_clearText, cX8_clearText, 2, (Option.some FieldType.int), 8, 0)
theorem I_X8_clearText : miB M_X8_clearText = cX8_clearText ∧ miL M_X8_clearText = 2 ∧ miR M_X8_clearText = (Option.some FieldType.int) ∧ miC M_X8_clearText = 8 ∧ miV M_X8_clearText = 0 := ⟨rfl, rfl, rfl, rfl, rfl⟩
theorem ok_X8_clearText : mOK M_X8_clearText := mOKi 1063 (by decide +kernel) (by decide +kernel) rfl (by decide +kernel)
def M_X8_isAt : MI := (yX8_isAt, cX8_isAt, 2, (Option.some FieldType.boolean), 8, 0)
theorem I_X8_isAt : miB M_X8_isAt = cX8_isAt ∧ miL M_X8_isAt = 2 ∧ miR M_X8_isAt = (Option.some FieldType.boolean) ∧ miC M_X8_isAt = 8 ∧ miV M_X8_isAt = 0 := ⟨rfl, rfl, rfl, rfl, rfl⟩
theorem ok_X8_isAt : mOK M_X8_isAt := mOKi 1087 (by decide +kernel) (by decide +kernel) rfl (by decide +kernel)
def M_X8_takes : MI := (yX8_takes, cX8_takes, 3, (Option.some FieldType.boolean), 8, 1)
theorem I_X8_takes : miB M_X8_takes = cX8_takes ∧ miL M_X8_takes = 3 ∧ miR M_X8_takes = (Option.some FieldType.boolean) ∧ miC M_X8_takes = 8 ∧ miV M_X8_takes = 1 := ⟨rfl, rfl, rfl, rfl, rfl⟩
theorem ok_X8_takes : mOK M_X8_takes := mOKi 1083 (by decide +kernel) (by decide +kernel) rfl (by decide +kernel)
def M_X8_takesNumber : MI := (yX8_takesNumber, cX8_takesNumber, 5, (Option.some FieldType.boolean), 8, 2)
theorem I_X8_takesNumber : miB M_X8_takesNumber = cX8_takesNumber ∧ miL M_X8_takesNumber = 5 ∧ miR M_X8_takesNumber = (Option.some FieldType.boolean) ∧ miC M_X8_takesNumber = 8 ∧ miV M_X8_takesNumber = 2 := ⟨rfl, rfl, rfl, rfl, rfl⟩
theorem ok_X8_takesNumber : mOK M_X8_takesNumber := mOKi 1079 (by decide +kernel) (by decide +kernel) rfl (by decide +kernel)
def M_X8_letterAt : MI := (yX8_letterAt, cX8_letterAt, 7, (Option.some FieldType.int), 8, 0)
theorem I_X8_letterAt : miB M_X8_letterAt = cX8_letterAt ∧ miL M_X8_letterAt = 7 ∧ miR M_X8_letterAt = (Option.some FieldType.int) ∧ miC M_X8_letterAt = 8 ∧ miV M_X8_letterAt = 0 := ⟨rfl, rfl, rfl, rfl, rfl⟩
theorem ok_X8_letterAt : mOK M_X8_letterAt := mOKi 1098 (by decide +kernel) (by decide +kernel) rfl (by decide +kernel)
def M_X8_takesWord : MI := (yX8_takesWord, cX8_takesWord, 4, (Option.some FieldType.boolean), 8, 1)
theorem I_X8_takesWord : miB M_X8_takesWord = cX8_takesWord ∧ miL M_X8_takesWord = 4 ∧ miR M_X8_takesWord = (Option.some FieldType.boolean) ∧ miC M_X8_takesWord = 8 ∧ miV M_X8_takesWord = 1 := ⟨rfl, rfl, rfl, rfl, rfl⟩
theorem ok_X8_takesWord : mOK M_X8_takesWord := mOKi 1095 (by decide +kernel) (by decide +kernel) rfl (by decide +kernel)
def M_X8_takesOption : MI := (yX8_takesOption, cX8_takesOption, 4, (Option.some FieldType.boolean), 8, 2)
theorem I_X8_takesOption : miB M_X8_takesOption = cX8_takesOption ∧ miL M_X8_takesOption = 4 ∧ miR M_X8_takesOption = (Option.some FieldType.boolean) ∧ miC M_X8_takesOption = 8 ∧ miV M_X8_takesOption = 2 := ⟨rfl, rfl, rfl, rfl, rfl⟩
theorem ok_X8_takesOption : mOK M_X8_takesOption := mOKi 1091 (by decide +kernel) (by decide +kernel) rfl (by decide +kernel)
def M_X8_takesSize : MI := (yX8_takesSize, cX8_takesSize, 1, (Option.some FieldType.boolean), 8, 2)
theorem I_X8_takesSize : miB M_X8_takesSize = cX8_takesSize ∧ miL M_X8_takesSize = 1 ∧ miR M_X8_takesSize = (Option.some FieldType.boolean) ∧ miC M_X8_takesSize = 8 ∧ miV M_X8_takesSize = 2 := ⟨rfl, rfl, rfl, rfl, rfl⟩
theorem ok_X8_takesSize : mOK M_X8_takesSize := mOKi 1112 (by decide +kernel) (by decide +kernel) rfl (by decide +kernel)
def M_X8_takesKind : MI := (yX8_takesKind, cX8_takesKind, 2, (Option.some FieldType.boolean), 8, 2)
theorem I_X8_takesKind : miB M_X8_takesKind = cX8_takesKind ∧ miL M_X8_takesKind = 2 ∧ miR M_X8_takesKind = (Option.some FieldType.boolean) ∧ miC M_X8_takesKind = 8 ∧ miV M_X8_takesKind = 2 := ⟨rfl, rfl, rfl, rfl, rfl⟩
theorem ok_X8_takesKind : mOK M_X8_takesKind := mOKi 1116 (by decide +kernel) (by decide +kernel) rfl (by decide +kernel)
def M_X8_takesJob : MI := (yX8_takesJob, cX8_takesJob, 1, (Option.some FieldType.boolean), 8, 3)
theorem I_X8_takesJob : miB M_X8_takesJob = cX8_takesJob ∧ miL M_X8_takesJob = 1 ∧ miR M_X8_takesJob = (Option.some FieldType.boolean) ∧ miC M_X8_takesJob = 8 ∧ miV M_X8_takesJob = 3 := ⟨rfl, rfl, rfl, rfl, rfl⟩
theorem ok_X8_takesJob : mOK M_X8_takesJob := mOKi 1075 (by decide +kernel) (by decide +kernel) rfl (by decide +kernel)
def M_X8_hasFault : MI := (yX8_hasFault, cX8_hasFault, 3, (Option.some FieldType.boolean), 8, 4)
theorem I_X8_hasFault : miB M_X8_hasFault = cX8_hasFault ∧ miL M_X8_hasFault = 3 ∧ miR M_X8_hasFault = (Option.some FieldType.boolean) ∧ miC M_X8_hasFault = 8 ∧ miV M_X8_hasFault = 4 := ⟨rfl, rfl, rfl, rfl, rfl⟩
theorem ok_X8_hasFault : mOK M_X8_hasFault := mOKi 1071 (by decide +kernel) (by decide +kernel) rfl (by decide +kernel)
def M_X8_fault : MI := (yX8_fault, cX8_fault, 2, (Option.some FieldType.int), 8, 5)
theorem I_X8_fault : miB M_X8_fault = cX8_fault ∧ miL M_X8_fault = 2 ∧ miR M_X8_fault = (Option.some FieldType.int) ∧ miC M_X8_fault = 8 ∧ miV M_X8_fault = 5 := ⟨rfl, rfl, rfl, rfl, rfl⟩
theorem ok_X8_fault : mOK M_X8_fault := mOKi 1067 (by decide +kernel) (by decide +kernel) rfl (by decide +kernel)
def M_X8_enter : MI := (yX8_enter, cX8_enter, 5, (Option.some FieldType.int), 8, 5)
theorem I_X8_enter : miB M_X8_enter = cX8_enter ∧ miL M_X8_enter = 5 ∧ miR M_X8_enter = (Option.some FieldType.int) ∧ miC M_X8_enter = 8 ∧ miV M_X8_enter = 5 := ⟨rfl, rfl, rfl, rfl, rfl⟩
theorem ok_X8_enter : mOK M_X8_enter := mOKi 1120 (by decide +kernel) (by decide +kernel) rfl (by decide +kernel)
def nestL : List Cond := [.methodLinkNest RX4 11 yX6_init RX7, .methodLinkNest RX5 21 yX1_init RX7, .methodLinkNest RX4 27 yX3_init RX7, .methodLinkNest RX7 28 yX2_init RX7, .methodLinkNest RX7 35 yX1_init RX7, .methodLinkNest RX6 27 yX7_isBelow RX7, .methodLinkNest RX1 58 yX7_isWithin RX7, .methodLinkNest RX3 37 yX7_isBelow RX7, .methodLinkNest RX2 19 yX7_isBelow RX7]
def callOK (c i kd n cl lv : Nat) (M : MI) : Prop := mOK M ∧ (parseMethodDescriptor (miN M).desc).map (fun d => d.parameters.length) = some n ∧ Cond.initialized (miN M).cls ∈ UW ∧ ((miN M).cls ≠ "java/lang/invoke/MethodHandle" ∧ (miN M).cls ≠ "java/lang/invoke/VarHandle") ∧ miC M = cl ∧ miV M = lv ∧ (match kd with
  | 0 => Cond.methodLink (RXs c) i (miN M) ∈ UW ∧ Cond.instanceMethod (miN M) ∈ UW ∧ Cond.selects (miN M).cls (miN M) (miN M) ∈ UW
  | 1 => Cond.methodLink (RXs c) i (miN M) ∈ UW ∧ Cond.static (miN M) ∈ UW
  | 2 => Cond.methodLink (RXs c) i (miN M) ∈ UW ∧ Cond.instanceMethod (miN M) ∈ UW ∧ (miN M).name = "<init>" ∧ miR M = none
  | 3 => Cond.methodLinkNest (RXs c) i (miN M) RX7 ∈ nestL ∧ Cond.static (miN M) ∈ UW
  | _ => Cond.methodLinkNest (RXs c) i (miN M) RX7 ∈ nestL ∧ Cond.instanceMethod (miN M) ∈ UW ∧ (miN M).name = "<init>" ∧ miR M = none)
theorem ca_0_17 : callOK 0 17 2 0 4 3 M_X4_init := ⟨ok_X4_init, by decide +kernel, uw 45 (by decide +kernel) rfl, by decide +kernel, rfl, rfl, ⟨uw 266 (by decide +kernel) rfl, uw 70 (by decide +kernel) rfl, rfl, rfl⟩⟩
theorem ca_0_22 : callOK 0 22 0 0 0 0 M_X0_dropOldest := ⟨ok_X0_dropOldest, by decide +kernel, uw 51 (by decide +kernel) rfl, by decide +kernel, rfl, rfl, ⟨uw 341 (by decide +kernel) rfl, uw 342 (by decide +kernel) rfl, uw 343 (by decide +kernel) rfl⟩⟩
theorem ca_0_25 : callOK 0 25 0 1 4 2 M_X4_copyFrom := ⟨ok_X4_copyFrom, by decide +kernel, uw 45 (by decide +kernel) rfl, by decide +kernel, rfl, rfl, ⟨uw 345 (by decide +kernel) rfl, uw 346 (by decide +kernel) rfl, uw 347 (by decide +kernel) rfl⟩⟩
theorem ca_1_58 : callOK 1 58 3 3 7 0 M_X7_isWithin := ⟨ok_X7_isWithin, by decide +kernel, uw 44 (by decide +kernel) rfl, by decide +kernel, rfl, rfl, ⟨List.mem_of_getElem? (i := 6) rfl, uw 335 (by decide +kernel) rfl⟩⟩
theorem ca_1_62 : callOK 1 62 0 0 1 0 M_X1_nextSheet := ⟨ok_X1_nextSheet, by decide +kernel, uw 48 (by decide +kernel) rfl, by decide +kernel, rfl, rfl, ⟨uw 474 (by decide +kernel) rfl, uw 475 (by decide +kernel) rfl, uw 476 (by decide +kernel) rfl⟩⟩
theorem ca_1_66 : callOK 1 66 0 0 1 0 M_X1_nextCopy := ⟨ok_X1_nextCopy, by decide +kernel, uw 48 (by decide +kernel) rfl, by decide +kernel, rfl, rfl, ⟨uw 478 (by decide +kernel) rfl, uw 479 (by decide +kernel) rfl, uw 480 (by decide +kernel) rfl⟩⟩
theorem ca_2_19 : callOK 2 19 3 2 7 0 M_X7_isBelow := ⟨ok_X7_isBelow, by decide +kernel, uw 44 (by decide +kernel) rfl, by decide +kernel, rfl, rfl, ⟨List.mem_of_getElem? (i := 8) rfl, uw 332 (by decide +kernel) rfl⟩⟩
theorem ca_2_33 : callOK 2 33 0 0 5 0 M_X5_room := ⟨ok_X5_room, by decide +kernel, uw 47 (by decide +kernel) rfl, by decide +kernel, rfl, rfl, ⟨uw 662 (by decide +kernel) rfl, uw 421 (by decide +kernel) rfl, uw 422 (by decide +kernel) rfl⟩⟩
theorem ca_2_51 : callOK 2 51 0 3 2 8 M_X2_reasonOfNext := ⟨ok_X2_reasonOfNext, by decide +kernel, uw 52 (by decide +kernel) rfl, by decide +kernel, rfl, rfl, ⟨uw 663 (by decide +kernel) rfl, uw 664 (by decide +kernel) rfl, uw 665 (by decide +kernel) rfl⟩⟩
theorem ca_2_55 : callOK 2 55 0 1 2 7 M_X2_readJob := ⟨ok_X2_readJob, by decide +kernel, uw 52 (by decide +kernel) rfl, by decide +kernel, rfl, rfl, ⟨uw 667 (by decide +kernel) rfl, uw 668 (by decide +kernel) rfl, uw 669 (by decide +kernel) rfl⟩⟩
theorem ca_2_59 : callOK 2 59 0 0 1 1 M_X1_isInRange := ⟨ok_X1_isInRange, by decide +kernel, uw 48 (by decide +kernel) rfl, by decide +kernel, rfl, rfl, ⟨uw 764 (by decide +kernel) rfl, uw 412 (by decide +kernel) rfl, uw 413 (by decide +kernel) rfl⟩⟩
theorem ca_2_65 : callOK 2 65 0 1 1 0 M_X1_staplingRefusal := ⟨ok_X1_staplingRefusal, by decide +kernel, uw 48 (by decide +kernel) rfl, by decide +kernel, rfl, rfl, ⟨uw 765 (by decide +kernel) rfl, uw 417 (by decide +kernel) rfl, uw 418 (by decide +kernel) rfl⟩⟩
theorem ca_2_71 : callOK 2 71 0 1 2 6 M_X2_readNumber := ⟨ok_X2_readNumber, by decide +kernel, uw 52 (by decide +kernel) rfl, by decide +kernel, rfl, rfl, ⟨uw 672 (by decide +kernel) rfl, uw 673 (by decide +kernel) rfl, uw 674 (by decide +kernel) rfl⟩⟩
theorem ca_2_77 : callOK 2 77 0 0 2 6 M_X2_readHow := ⟨ok_X2_readHow, by decide +kernel, uw 52 (by decide +kernel) rfl, by decide +kernel, rfl, rfl, ⟨uw 733 (by decide +kernel) rfl, uw 734 (by decide +kernel) rfl, uw 735 (by decide +kernel) rfl⟩⟩
theorem ca_2_80 : callOK 2 80 0 0 2 6 M_X2_readSize := ⟨ok_X2_readSize, by decide +kernel, uw 52 (by decide +kernel) rfl, by decide +kernel, rfl, rfl, ⟨uw 741 (by decide +kernel) rfl, uw 742 (by decide +kernel) rfl, uw 743 (by decide +kernel) rfl⟩⟩
theorem ca_2_83 : callOK 2 83 0 0 2 6 M_X2_readKind := ⟨ok_X2_readKind, by decide +kernel, uw 52 (by decide +kernel) rfl, by decide +kernel, rfl, rfl, ⟨uw 752 (by decide +kernel) rfl, uw 753 (by decide +kernel) rfl, uw 754 (by decide +kernel) rfl⟩⟩
theorem ca_2_86 : callOK 2 86 0 5 1 0 M_X1_describe := ⟨ok_X1_describe, by decide +kernel, uw 48 (by decide +kernel) rfl, by decide +kernel, rfl, rfl, ⟨uw 763 (by decide +kernel) rfl, uw 408 (by decide +kernel) rfl, uw 409 (by decide +kernel) rfl⟩⟩
theorem ca_2_90 : callOK 2 90 0 0 2 0 M_X2_digitAtPlace := ⟨ok_X2_digitAtPlace, by decide +kernel, uw 52 (by decide +kernel) rfl, by decide +kernel, rfl, rfl, ⟨uw 676 (by decide +kernel) rfl, uw 677 (by decide +kernel) rfl, uw 678 (by decide +kernel) rfl⟩⟩
theorem ca_2_93 : callOK 2 93 0 1 2 5 M_X2_skips := ⟨ok_X2_skips, by decide +kernel, uw 52 (by decide +kernel) rfl, by decide +kernel, rfl, rfl, ⟨uw 680 (by decide +kernel) rfl, uw 681 (by decide +kernel) rfl, uw 682 (by decide +kernel) rfl⟩⟩
theorem ca_2_105 : callOK 2 105 1 1 2 0 M_X2_sizeWord := ⟨ok_X2_sizeWord, by decide +kernel, uw 52 (by decide +kernel) rfl, by decide +kernel, rfl, rfl, ⟨uw 745 (by decide +kernel) rfl, uw 746 (by decide +kernel) rfl⟩⟩
theorem ca_2_109 : callOK 2 109 1 1 2 0 M_X2_kindWord := ⟨ok_X2_kindWord, by decide +kernel, uw 52 (by decide +kernel) rfl, by decide +kernel, rfl, rfl, ⟨uw 756 (by decide +kernel) rfl, uw 757 (by decide +kernel) rfl⟩⟩
theorem ca_3_37 : callOK 3 37 3 2 7 0 M_X7_isBelow := ⟨ok_X7_isBelow, by decide +kernel, uw 44 (by decide +kernel) rfl, by decide +kernel, rfl, rfl, ⟨List.mem_of_getElem? (i := 7) rfl, uw 332 (by decide +kernel) rfl⟩⟩
theorem ca_3_41 : callOK 3 41 0 2 3 1 M_X3_add := ⟨ok_X3_add, by decide +kernel, uw 49 (by decide +kernel) rfl, by decide +kernel, rfl, rfl, ⟨uw 560 (by decide +kernel) rfl, uw 449 (by decide +kernel) rfl, uw 450 (by decide +kernel) rfl⟩⟩
theorem ca_4_11 : callOK 4 11 4 0 6 1 M_X6_init := ⟨ok_X6_init, by decide +kernel, uw 46 (by decide +kernel) rfl, by decide +kernel, rfl, rfl, ⟨List.mem_of_getElem? (i := 0) rfl, uw 76 (by decide +kernel) rfl, rfl, rfl⟩⟩
theorem ca_4_20 : callOK 4 20 2 0 5 2 M_X5_init := ⟨ok_X5_init, by decide +kernel, uw 47 (by decide +kernel) rfl, by decide +kernel, rfl, rfl, ⟨uw 95 (by decide +kernel) rfl, uw 96 (by decide +kernel) rfl, rfl, rfl⟩⟩
theorem ca_4_27 : callOK 4 27 4 0 3 1 M_X3_init := ⟨ok_X3_init, by decide +kernel, uw 49 (by decide +kernel) rfl, by decide +kernel, rfl, rfl, ⟨List.mem_of_getElem? (i := 2) rfl, uw 186 (by decide +kernel) rfl, rfl, rfl⟩⟩
theorem ca_4_52 : callOK 4 52 0 1 6 1 M_X6_copyFrom := ⟨ok_X6_copyFrom, by decide +kernel, uw 46 (by decide +kernel) rfl, by decide +kernel, rfl, rfl, ⟨uw 349 (by decide +kernel) rfl, uw 350 (by decide +kernel) rfl, uw 351 (by decide +kernel) rfl⟩⟩
theorem ca_4_56 : callOK 4 56 0 1 5 1 M_X5_copyFrom := ⟨ok_X5_copyFrom, by decide +kernel, uw 47 (by decide +kernel) rfl, by decide +kernel, rfl, rfl, ⟨uw 354 (by decide +kernel) rfl, uw 355 (by decide +kernel) rfl, uw 356 (by decide +kernel) rfl⟩⟩
theorem ca_4_59 : callOK 4 59 0 1 3 1 M_X3_copyFrom := ⟨ok_X3_copyFrom, by decide +kernel, uw 49 (by decide +kernel) rfl, by decide +kernel, rfl, rfl, ⟨uw 362 (by decide +kernel) rfl, uw 363 (by decide +kernel) rfl, uw 364 (by decide +kernel) rfl⟩⟩
theorem ca_4_71 : callOK 4 71 0 0 4 5 M_X4_findWork := ⟨ok_X4_findWork, by decide +kernel, uw 45 (by decide +kernel) rfl, by decide +kernel, rfl, rfl, ⟨uw 507 (by decide +kernel) rfl, uw 508 (by decide +kernel) rfl, uw 509 (by decide +kernel) rfl⟩⟩
theorem ca_4_75 : callOK 4 75 0 1 4 5 M_X4_goOnWorking := ⟨ok_X4_goOnWorking, by decide +kernel, uw 45 (by decide +kernel) rfl, by decide +kernel, rfl, rfl, ⟨uw 565 (by decide +kernel) rfl, uw 566 (by decide +kernel) rfl, uw 567 (by decide +kernel) rfl⟩⟩
theorem ca_4_79 : callOK 4 79 0 2 3 1 M_X3_add := ⟨ok_X3_add, by decide +kernel, uw 49 (by decide +kernel) rfl, by decide +kernel, rfl, rfl, ⟨uw 448 (by decide +kernel) rfl, uw 449 (by decide +kernel) rfl, uw 450 (by decide +kernel) rfl⟩⟩
theorem ca_4_83 : callOK 4 83 0 1 5 0 M_X5_find := ⟨ok_X5_find, by decide +kernel, uw 47 (by decide +kernel) rfl, by decide +kernel, rfl, rfl, ⟨uw 573 (by decide +kernel) rfl, uw 437 (by decide +kernel) rfl, uw 438 (by decide +kernel) rfl⟩⟩
theorem ca_4_87 : callOK 4 87 0 0 5 1 M_X5_next := ⟨ok_X5_next, by decide +kernel, uw 47 (by decide +kernel) rfl, by decide +kernel, rfl, rfl, ⟨uw 511 (by decide +kernel) rfl, uw 512 (by decide +kernel) rfl, uw 513 (by decide +kernel) rfl⟩⟩
theorem ca_4_91 : callOK 4 91 0 1 4 1 M_X4_stopReason := ⟨ok_X4_stopReason, by decide +kernel, uw 45 (by decide +kernel) rfl, by decide +kernel, rfl, rfl, ⟨uw 515 (by decide +kernel) rfl, uw 516 (by decide +kernel) rfl, uw 517 (by decide +kernel) rfl⟩⟩
theorem ca_4_95 : callOK 4 95 0 0 1 0 M_X1_hasSetToStaple := ⟨ok_X1_hasSetToStaple, by decide +kernel, uw 48 (by decide +kernel) rfl, by decide +kernel, rfl, rfl, ⟨uw 519 (by decide +kernel) rfl, uw 520 (by decide +kernel) rfl, uw 521 (by decide +kernel) rfl⟩⟩
theorem ca_4_101 : callOK 4 101 0 1 4 4 M_X4_beginStapling := ⟨ok_X4_beginStapling, by decide +kernel, uw 45 (by decide +kernel) rfl, by decide +kernel, rfl, rfl, ⟨uw 527 (by decide +kernel) rfl, uw 528 (by decide +kernel) rfl, uw 529 (by decide +kernel) rfl⟩⟩
theorem ca_4_105 : callOK 4 105 0 1 4 3 M_X4_beginSheet := ⟨ok_X4_beginSheet, by decide +kernel, uw 45 (by decide +kernel) rfl, by decide +kernel, rfl, rfl, ⟨uw 547 (by decide +kernel) rfl, uw 548 (by decide +kernel) rfl, uw 549 (by decide +kernel) rfl⟩⟩
theorem ca_4_117 : callOK 4 117 0 2 6 0 M_X6_lowestWith := ⟨ok_X6_lowestWith, by decide +kernel, uw 46 (by decide +kernel) rfl, by decide +kernel, rfl, rfl, ⟨uw 523 (by decide +kernel) rfl, uw 524 (by decide +kernel) rfl, uw 525 (by decide +kernel) rfl⟩⟩
theorem ca_4_121 : callOK 4 121 0 2 6 1 M_X6_takeSheet := ⟨ok_X6_takeSheet, by decide +kernel, uw 46 (by decide +kernel) rfl, by decide +kernel, rfl, rfl, ⟨uw 551 (by decide +kernel) rfl, uw 552 (by decide +kernel) rfl, uw 553 (by decide +kernel) rfl⟩⟩
theorem ca_4_124 : callOK 4 124 0 2 3 2 M_X3_addTakenSheet := ⟨ok_X3_addTakenSheet, by decide +kernel, uw 49 (by decide +kernel) rfl, by decide +kernel, rfl, rfl, ⟨uw 556 (by decide +kernel) rfl, uw 557 (by decide +kernel) rfl, uw 558 (by decide +kernel) rfl⟩⟩
theorem ca_4_133 : callOK 4 133 0 0 1 1 M_X1_sidesOfNextSheet := ⟨ok_X1_sidesOfNextSheet, by decide +kernel, uw 48 (by decide +kernel) rfl, by decide +kernel, rfl, rfl, ⟨uw 561 (by decide +kernel) rfl, uw 562 (by decide +kernel) rfl, uw 563 (by decide +kernel) rfl⟩⟩
theorem ca_4_136 : callOK 4 136 0 1 4 3 M_X4_finishStapling := ⟨ok_X4_finishStapling, by decide +kernel, uw 45 (by decide +kernel) rfl, by decide +kernel, rfl, rfl, ⟨uw 531 (by decide +kernel) rfl, uw 532 (by decide +kernel) rfl, uw 533 (by decide +kernel) rfl⟩⟩
theorem ca_4_144 : callOK 4 144 0 0 4 4 M_X4_finishWork := ⟨ok_X4_finishWork, by decide +kernel, uw 45 (by decide +kernel) rfl, by decide +kernel, rfl, rfl, ⟨uw 569 (by decide +kernel) rfl, uw 570 (by decide +kernel) rfl, uw 571 (by decide +kernel) rfl⟩⟩
theorem ca_4_147 : callOK 4 147 0 1 4 3 M_X4_finishSheet := ⟨ok_X4_finishSheet, by decide +kernel, uw 45 (by decide +kernel) rfl, by decide +kernel, rfl, rfl, ⟨uw 574 (by decide +kernel) rfl, uw 575 (by decide +kernel) rfl, uw 576 (by decide +kernel) rfl⟩⟩
theorem ca_4_156 : callOK 4 156 0 1 4 2 M_X4_removeIfFinished := ⟨ok_X4_removeIfFinished, by decide +kernel, uw 45 (by decide +kernel) rfl, by decide +kernel, rfl, rfl, ⟨uw 538 (by decide +kernel) rfl, uw 539 (by decide +kernel) rfl, uw 540 (by decide +kernel) rfl⟩⟩
theorem ca_4_162 : callOK 4 162 0 0 1 0 M_X1_isFinished := ⟨ok_X1_isFinished, by decide +kernel, uw 48 (by decide +kernel) rfl, by decide +kernel, rfl, rfl, ⟨uw 542 (by decide +kernel) rfl, uw 543 (by decide +kernel) rfl, uw 544 (by decide +kernel) rfl⟩⟩
theorem ca_4_165 : callOK 4 165 0 1 5 0 M_X5_remove := ⟨ok_X5_remove, by decide +kernel, uw 47 (by decide +kernel) rfl, by decide +kernel, rfl, rfl, ⟨uw 546 (by decide +kernel) rfl, uw 458 (by decide +kernel) rfl, uw 459 (by decide +kernel) rfl⟩⟩
theorem ca_4_168 : callOK 4 168 0 1 4 2 M_X4_giveUpWorkOf := ⟨ok_X4_giveUpWorkOf, by decide +kernel, uw 45 (by decide +kernel) rfl, by decide +kernel, rfl, rfl, ⟨uw 444 (by decide +kernel) rfl, uw 445 (by decide +kernel) rfl, uw 446 (by decide +kernel) rfl⟩⟩
theorem ca_4_172 : callOK 4 172 0 2 5 1 M_X5_sheetsToPrint := ⟨ok_X5_sheetsToPrint, by decide +kernel, uw 47 (by decide +kernel) rfl, by decide +kernel, rfl, rfl, ⟨uw 612 (by decide +kernel) rfl, uw 613 (by decide +kernel) rfl, uw 614 (by decide +kernel) rfl⟩⟩
theorem ca_4_175 : callOK 4 175 0 2 6 0 M_X6_sheetsOf := ⟨ok_X6_sheetsOf, by decide +kernel, uw 46 (by decide +kernel) rfl, by decide +kernel, rfl, rfl, ⟨uw 620 (by decide +kernel) rfl, uw 384 (by decide +kernel) rfl, uw 385 (by decide +kernel) rfl⟩⟩
theorem ca_4_178 : callOK 4 178 0 2 1 0 M_X1_isOn := ⟨ok_X1_isOn, by decide +kernel, uw 48 (by decide +kernel) rfl, by decide +kernel, rfl, rfl, ⟨uw 621 (by decide +kernel) rfl, uw 617 (by decide +kernel) rfl, uw 618 (by decide +kernel) rfl⟩⟩
theorem ca_5_21 : callOK 5 21 4 0 1 1 M_X1_init := ⟨ok_X1_init, by decide +kernel, uw 48 (by decide +kernel) rfl, by decide +kernel, rfl, rfl, ⟨List.mem_of_getElem? (i := 1) rfl, uw 103 (by decide +kernel) rfl, rfl, rfl⟩⟩
theorem ca_5_28 : callOK 5 28 0 1 1 0 M_X1_copyFrom := ⟨ok_X1_copyFrom, by decide +kernel, uw 48 (by decide +kernel) rfl, by decide +kernel, rfl, rfl, ⟨uw 358 (by decide +kernel) rfl, uw 359 (by decide +kernel) rfl, uw 360 (by decide +kernel) rfl⟩⟩
theorem ca_5_42 : callOK 5 42 0 2 5 0 M_X5_isAhead := ⟨ok_X5_isAhead, by decide +kernel, uw 47 (by decide +kernel) rfl, by decide +kernel, rfl, rfl, ⟨uw 494 (by decide +kernel) rfl, uw 495 (by decide +kernel) rfl, uw 496 (by decide +kernel) rfl⟩⟩
theorem ca_5_46 : callOK 5 46 0 1 5 1 M_X5_jobsAheadOf := ⟨ok_X5_jobsAheadOf, by decide +kernel, uw 47 (by decide +kernel) rfl, by decide +kernel, rfl, rfl, ⟨uw 490 (by decide +kernel) rfl, uw 491 (by decide +kernel) rfl, uw 492 (by decide +kernel) rfl⟩⟩
theorem ca_5_50 : callOK 5 50 0 2 1 0 M_X1_isOn := ⟨ok_X1_isOn, by decide +kernel, uw 48 (by decide +kernel) rfl, by decide +kernel, rfl, rfl, ⟨uw 616 (by decide +kernel) rfl, uw 617 (by decide +kernel) rfl, uw 618 (by decide +kernel) rfl⟩⟩
theorem ca_6_27 : callOK 6 27 3 2 7 0 M_X7_isBelow := ⟨ok_X7_isBelow, by decide +kernel, uw 44 (by decide +kernel) rfl, by decide +kernel, rfl, rfl, ⟨List.mem_of_getElem? (i := 5) rfl, uw 332 (by decide +kernel) rfl⟩⟩
theorem ca_6_31 : callOK 6 31 0 2 6 0 M_X6_lowestWith := ⟨ok_X6_lowestWith, by decide +kernel, uw 46 (by decide +kernel) rfl, by decide +kernel, rfl, rfl, ⟨uw 555 (by decide +kernel) rfl, uw 524 (by decide +kernel) rfl, uw 525 (by decide +kernel) rfl⟩⟩
theorem ca_7_11 : callOK 7 11 2 0 4 3 M_X4_init := ⟨ok_X4_init, by decide +kernel, uw 45 (by decide +kernel) rfl, by decide +kernel, rfl, rfl, ⟨uw 69 (by decide +kernel) rfl, uw 70 (by decide +kernel) rfl, rfl, rfl⟩⟩
theorem ca_7_21 : callOK 7 21 2 0 0 4 M_X0_init := ⟨ok_X0_init, by decide +kernel, uw 51 (by decide +kernel) rfl, by decide +kernel, rfl, rfl, ⟨uw 260 (by decide +kernel) rfl, uw 261 (by decide +kernel) rfl, rfl, rfl⟩⟩
theorem ca_7_28 : callOK 7 28 4 0 2 1 M_X2_init := ⟨ok_X2_init, by decide +kernel, uw 52 (by decide +kernel) rfl, by decide +kernel, rfl, rfl, ⟨List.mem_of_getElem? (i := 3) rfl, uw 278 (by decide +kernel) rfl, rfl, rfl⟩⟩
theorem ca_7_35 : callOK 7 35 4 0 1 1 M_X1_init := ⟨ok_X1_init, by decide +kernel, uw 48 (by decide +kernel) rfl, by decide +kernel, rfl, rfl, ⟨List.mem_of_getElem? (i := 4) rfl, uw 103 (by decide +kernel) rfl, rfl, rfl⟩⟩
theorem ca_7_40 : callOK 7 40 1 2 7 0 M_X7_isBelow := ⟨ok_X7_isBelow, by decide +kernel, uw 44 (by decide +kernel) rfl, by decide +kernel, rfl, rfl, ⟨uw 331 (by decide +kernel) rfl, uw 332 (by decide +kernel) rfl⟩⟩
theorem ca_7_44 : callOK 7 44 1 3 7 0 M_X7_isWithin := ⟨ok_X7_isWithin, by decide +kernel, uw 44 (by decide +kernel) rfl, by decide +kernel, rfl, rfl, ⟨uw 334 (by decide +kernel) rfl, uw 335 (by decide +kernel) rfl⟩⟩
theorem ca_7_58 : callOK 7 58 0 1 0 3 M_X0_keep := ⟨ok_X0_keep, by decide +kernel, uw 51 (by decide +kernel) rfl, by decide +kernel, rfl, rfl, ⟨uw 337 (by decide +kernel) rfl, uw 338 (by decide +kernel) rfl, uw 339 (by decide +kernel) rfl⟩⟩
theorem ca_7_62 : callOK 7 62 1 2 7 1 M_X7_isPaper := ⟨ok_X7_isPaper, by decide +kernel, uw 44 (by decide +kernel) rfl, by decide +kernel, rfl, rfl, ⟨uw 371 (by decide +kernel) rfl, uw 372 (by decide +kernel) rfl⟩⟩
theorem ca_7_65 : callOK 7 65 0 3 6 1 M_X6_change := ⟨ok_X6_change, by decide +kernel, uw 46 (by decide +kernel) rfl, by decide +kernel, rfl, rfl, ⟨uw 374 (by decide +kernel) rfl, uw 375 (by decide +kernel) rfl, uw 376 (by decide +kernel) rfl⟩⟩
theorem ca_7_75 : callOK 7 75 0 2 6 0 M_X6_sheetsOf := ⟨ok_X6_sheetsOf, by decide +kernel, uw 46 (by decide +kernel) rfl, by decide +kernel, rfl, rfl, ⟨uw 383 (by decide +kernel) rfl, uw 384 (by decide +kernel) rfl, uw 385 (by decide +kernel) rfl⟩⟩
theorem ca_7_95 : callOK 7 95 0 5 1 0 M_X1_describe := ⟨ok_X1_describe, by decide +kernel, uw 48 (by decide +kernel) rfl, by decide +kernel, rfl, rfl, ⟨uw 407 (by decide +kernel) rfl, uw 408 (by decide +kernel) rfl, uw 409 (by decide +kernel) rfl⟩⟩
theorem ca_7_99 : callOK 7 99 0 0 1 1 M_X1_isInRange := ⟨ok_X1_isInRange, by decide +kernel, uw 48 (by decide +kernel) rfl, by decide +kernel, rfl, rfl, ⟨uw 411 (by decide +kernel) rfl, uw 412 (by decide +kernel) rfl, uw 413 (by decide +kernel) rfl⟩⟩
theorem ca_7_103 : callOK 7 103 0 1 1 0 M_X1_staplingRefusal := ⟨ok_X1_staplingRefusal, by decide +kernel, uw 48 (by decide +kernel) rfl, by decide +kernel, rfl, rfl, ⟨uw 416 (by decide +kernel) rfl, uw 417 (by decide +kernel) rfl, uw 418 (by decide +kernel) rfl⟩⟩
theorem ca_7_114 : callOK 7 114 0 0 5 0 M_X5_room := ⟨ok_X5_room, by decide +kernel, uw 47 (by decide +kernel) rfl, by decide +kernel, rfl, rfl, ⟨uw 420 (by decide +kernel) rfl, uw 421 (by decide +kernel) rfl, uw 422 (by decide +kernel) rfl⟩⟩
theorem ca_7_120 : callOK 7 120 0 1 5 1 M_X5_append := ⟨ok_X5_append, by decide +kernel, uw 47 (by decide +kernel) rfl, by decide +kernel, rfl, rfl, ⟨uw 424 (by decide +kernel) rfl, uw 425 (by decide +kernel) rfl, uw 426 (by decide +kernel) rfl⟩⟩
theorem ca_7_124 : callOK 7 124 0 1 5 0 M_X5_find := ⟨ok_X5_find, by decide +kernel, uw 47 (by decide +kernel) rfl, by decide +kernel, rfl, rfl, ⟨uw 436 (by decide +kernel) rfl, uw 437 (by decide +kernel) rfl, uw 438 (by decide +kernel) rfl⟩⟩
theorem ca_7_132 : callOK 7 132 0 1 4 3 M_X4_interrupt := ⟨ok_X4_interrupt, by decide +kernel, uw 45 (by decide +kernel) rfl, by decide +kernel, rfl, rfl, ⟨uw 440 (by decide +kernel) rfl, uw 441 (by decide +kernel) rfl, uw 442 (by decide +kernel) rfl⟩⟩
theorem ca_7_139 : callOK 7 139 0 1 5 0 M_X5_remove := ⟨ok_X5_remove, by decide +kernel, uw 47 (by decide +kernel) rfl, by decide +kernel, rfl, rfl, ⟨uw 457 (by decide +kernel) rfl, uw 458 (by decide +kernel) rfl, uw 459 (by decide +kernel) rfl⟩⟩
theorem ca_7_146 : callOK 7 146 0 2 3 1 M_X3_add := ⟨ok_X3_add, by decide +kernel, uw 49 (by decide +kernel) rfl, by decide +kernel, rfl, rfl, ⟨uw 461 (by decide +kernel) rfl, uw 449 (by decide +kernel) rfl, uw 450 (by decide +kernel) rfl⟩⟩
theorem ca_7_155 : callOK 7 155 0 1 1 1 M_X1_property := ⟨ok_X1_property, by decide +kernel, uw 48 (by decide +kernel) rfl, by decide +kernel, rfl, rfl, ⟨uw 470 (by decide +kernel) rfl, uw 471 (by decide +kernel) rfl, uw 472 (by decide +kernel) rfl⟩⟩
theorem ca_7_158 : callOK 7 158 0 1 5 2 M_X5_at := ⟨ok_X5_at, by decide +kernel, uw 47 (by decide +kernel) rfl, by decide +kernel, rfl, rfl, ⟨uw 486 (by decide +kernel) rfl, uw 487 (by decide +kernel) rfl, uw 488 (by decide +kernel) rfl⟩⟩
theorem ca_7_168 : callOK 7 168 0 1 4 6 M_X4_letGoBy := ⟨ok_X4_letGoBy, by decide +kernel, uw 45 (by decide +kernel) rfl, by decide +kernel, rfl, rfl, ⟨uw 503 (by decide +kernel) rfl, uw 504 (by decide +kernel) rfl, uw 505 (by decide +kernel) rfl⟩⟩
theorem ca_7_172 : callOK 7 172 0 1 4 2 M_X4_copyFrom := ⟨ok_X4_copyFrom, by decide +kernel, uw 45 (by decide +kernel) rfl, by decide +kernel, rfl, rfl, ⟨uw 582 (by decide +kernel) rfl, uw 346 (by decide +kernel) rfl, uw 347 (by decide +kernel) rfl⟩⟩
theorem ca_7_175 : callOK 7 175 0 0 4 5 M_X4_findWork := ⟨ok_X4_findWork, by decide +kernel, uw 45 (by decide +kernel) rfl, by decide +kernel, rfl, rfl, ⟨uw 583 (by decide +kernel) rfl, uw 508 (by decide +kernel) rfl, uw 509 (by decide +kernel) rfl⟩⟩
theorem ca_7_181 : callOK 7 181 0 0 5 0 M_X5_heldJobs := ⟨ok_X5_heldJobs, by decide +kernel, uw 47 (by decide +kernel) rfl, by decide +kernel, rfl, rfl, ⟨uw 588 (by decide +kernel) rfl, uw 589 (by decide +kernel) rfl, uw 590 (by decide +kernel) rfl⟩⟩
theorem ca_7_205 : callOK 7 205 0 1 7 1 M_X7_settingAt := ⟨ok_X7_settingAt, by decide +kernel, uw 44 (by decide +kernel) rfl, by decide +kernel, rfl, rfl, ⟨uw 592 (by decide +kernel) rfl, uw 594 (by decide +kernel) rfl, uw 0 (by decide +kernel) rfl⟩⟩
theorem ca_7_217 : callOK 7 217 0 2 4 2 M_X4_lackingSheets := ⟨ok_X4_lackingSheets, by decide +kernel, uw 45 (by decide +kernel) rfl, by decide +kernel, rfl, rfl, ⟨uw 608 (by decide +kernel) rfl, uw 609 (by decide +kernel) rfl, uw 610 (by decide +kernel) rfl⟩⟩
theorem ca_7_220 : callOK 7 220 0 1 4 6 M_X4_ticksUntilGone := ⟨ok_X4_ticksUntilGone, by decide +kernel, uw 45 (by decide +kernel) rfl, by decide +kernel, rfl, rfl, ⟨uw 629 (by decide +kernel) rfl, uw 630 (by decide +kernel) rfl, uw 631 (by decide +kernel) rfl⟩⟩
theorem ca_7_223 : callOK 7 223 0 1 0 3 M_X0_restore := ⟨ok_X0_restore, by decide +kernel, uw 51 (by decide +kernel) rfl, by decide +kernel, rfl, rfl, ⟨uw 637 (by decide +kernel) rfl, uw 638 (by decide +kernel) rfl, uw 639 (by decide +kernel) rfl⟩⟩
theorem ca_7_227 : callOK 7 227 0 1 2 1 M_X2_append := ⟨ok_X2_append, by decide +kernel, uw 52 (by decide +kernel) rfl, by decide +kernel, rfl, rfl, ⟨uw 645 (by decide +kernel) rfl, uw 646 (by decide +kernel) rfl, uw 647 (by decide +kernel) rfl⟩⟩
theorem ca_7_230 : callOK 7 230 0 2 2 9 M_X2_examine := ⟨ok_X2_examine, by decide +kernel, uw 52 (by decide +kernel) rfl, by decide +kernel, rfl, rfl, ⟨uw 658 (by decide +kernel) rfl, uw 659 (by decide +kernel) rfl, uw 660 (by decide +kernel) rfl⟩⟩
theorem ca_7_246 : callOK 7 246 0 1 2 7 M_X2_readJob := ⟨ok_X2_readJob, by decide +kernel, uw 52 (by decide +kernel) rfl, by decide +kernel, rfl, rfl, ⟨uw 771 (by decide +kernel) rfl, uw 668 (by decide +kernel) rfl, uw 669 (by decide +kernel) rfl⟩⟩
theorem ca_8_32 : callOK 8 32 1 3 8 0 M_X8_in := ⟨ok_X8_in, by decide +kernel, uw 53 (by decide +kernel) rfl, by decide +kernel, rfl, rfl, ⟨uw 826 (by decide +kernel) rfl, uw 827 (by decide +kernel) rfl⟩⟩
theorem ca_8_36 : callOK 8 36 1 1 8 1 M_X8_isTray := ⟨ok_X8_isTray, by decide +kernel, uw 53 (by decide +kernel) rfl, by decide +kernel, rfl, rfl, ⟨uw 823 (by decide +kernel) rfl, uw 824 (by decide +kernel) rfl⟩⟩
theorem ca_8_40 : callOK 8 40 0 0 8 0 M_X8_records := ⟨ok_X8_records, by decide +kernel, uw 53 (by decide +kernel) rfl, by decide +kernel, rfl, rfl, ⟨uw 829 (by decide +kernel) rfl, uw 831 (by decide +kernel) rfl, uw 1 (by decide +kernel) rfl⟩⟩
theorem ca_8_43 : callOK 8 43 1 2 8 1 M_X8_isPaper := ⟨ok_X8_isPaper, by decide +kernel, uw 53 (by decide +kernel) rfl, by decide +kernel, rfl, rfl, ⟨uw 837 (by decide +kernel) rfl, uw 838 (by decide +kernel) rfl⟩⟩
theorem ca_8_47 : callOK 8 47 0 3 8 0 M_X8_isOf := ⟨ok_X8_isOf, by decide +kernel, uw 53 (by decide +kernel) rfl, by decide +kernel, rfl, rfl, ⟨uw 848 (by decide +kernel) rfl, uw 850 (by decide +kernel) rfl, uw 3 (by decide +kernel) rfl⟩⟩
theorem ca_8_50 : callOK 8 50 0 2 8 1 M_X8_sheetsOf := ⟨ok_X8_sheetsOf, by decide +kernel, uw 53 (by decide +kernel) rfl, by decide +kernel, rfl, rfl, ⟨uw 844 (by decide +kernel) rfl, uw 846 (by decide +kernel) rfl, uw 2 (by decide +kernel) rfl⟩⟩
theorem ca_8_54 : callOK 8 54 0 2 8 1 M_X8_puts := ⟨ok_X8_puts, by decide +kernel, uw 53 (by decide +kernel) rfl, by decide +kernel, rfl, rfl, ⟨uw 856 (by decide +kernel) rfl, uw 858 (by decide +kernel) rfl, uw 4 (by decide +kernel) rfl⟩⟩
theorem ca_8_57 : callOK 8 57 1 2 8 1 M_X8_isSetting := ⟨ok_X8_isSetting, by decide +kernel, uw 53 (by decide +kernel) rfl, by decide +kernel, rfl, rfl, ⟨uw 868 (by decide +kernel) rfl, uw 869 (by decide +kernel) rfl⟩⟩
theorem ca_8_60 : callOK 8 60 1 1 8 0 M_X8_jobAt := ⟨ok_X8_jobAt, by decide +kernel, uw 53 (by decide +kernel) rfl, by decide +kernel, rfl, rfl, ⟨uw 892 (by decide +kernel) rfl, uw 893 (by decide +kernel) rfl⟩⟩
theorem ca_8_64 : callOK 8 64 0 2 8 1 M_X8_of := ⟨ok_X8_of, by decide +kernel, uw 53 (by decide +kernel) rfl, by decide +kernel, rfl, rfl, ⟨uw 907 (by decide +kernel) rfl, uw 909 (by decide +kernel) rfl, uw 8 (by decide +kernel) rfl⟩⟩
theorem ca_8_67 : callOK 8 67 1 2 8 0 M_X8_setOf := ⟨ok_X8_setOf, by decide +kernel, uw 53 (by decide +kernel) rfl, by decide +kernel, rfl, rfl, ⟨uw 885 (by decide +kernel) rfl, uw 886 (by decide +kernel) rfl⟩⟩
theorem ca_8_70 : callOK 8 70 1 1 8 1 M_X8_isPages := ⟨ok_X8_isPages, by decide +kernel, uw 53 (by decide +kernel) rfl, by decide +kernel, rfl, rfl, ⟨uw 875 (by decide +kernel) rfl, uw 876 (by decide +kernel) rfl⟩⟩
theorem ca_8_73 : callOK 8 73 1 1 8 1 M_X8_isCopies := ⟨ok_X8_isCopies, by decide +kernel, uw 53 (by decide +kernel) rfl, by decide +kernel, rfl, rfl, ⟨uw 878 (by decide +kernel) rfl, uw 879 (by decide +kernel) rfl⟩⟩
theorem ca_8_76 : callOK 8 76 0 3 8 1 M_X8_whyNot := ⟨ok_X8_whyNot, by decide +kernel, uw 53 (by decide +kernel) rfl, by decide +kernel, rfl, rfl, ⟨uw 881 (by decide +kernel) rfl, uw 883 (by decide +kernel) rfl, uw 5 (by decide +kernel) rfl⟩⟩
theorem ca_8_80 : callOK 8 80 0 5 8 1 M_X8_comes := ⟨ok_X8_comes, by decide +kernel, uw 53 (by decide +kernel) rfl, by decide +kernel, rfl, rfl, ⟨uw 888 (by decide +kernel) rfl, uw 890 (by decide +kernel) rfl, uw 6 (by decide +kernel) rfl⟩⟩
theorem ca_8_84 : callOK 8 84 0 0 8 0 M_X8_endsWork := ⟨ok_X8_endsWork, by decide +kernel, uw 53 (by decide +kernel) rfl, by decide +kernel, rfl, rfl, ⟨uw 915 (by decide +kernel) rfl, uw 917 (by decide +kernel) rfl, uw 10 (by decide +kernel) rfl⟩⟩
theorem ca_8_87 : callOK 8 87 0 1 8 2 M_X8_placeOf := ⟨ok_X8_placeOf, by decide +kernel, uw 53 (by decide +kernel) rfl, by decide +kernel, rfl, rfl, ⟨uw 903 (by decide +kernel) rfl, uw 905 (by decide +kernel) rfl, uw 7 (by decide +kernel) rfl⟩⟩
theorem ca_8_90 : callOK 8 90 0 1 8 1 M_X8_givesUp := ⟨ok_X8_givesUp, by decide +kernel, uw 53 (by decide +kernel) rfl, by decide +kernel, rfl, rfl, ⟨uw 911 (by decide +kernel) rfl, uw 913 (by decide +kernel) rfl, uw 9 (by decide +kernel) rfl⟩⟩
theorem ca_8_94 : callOK 8 94 0 1 8 1 M_X8_goesJob := ⟨ok_X8_goesJob, by decide +kernel, uw 53 (by decide +kernel) rfl, by decide +kernel, rfl, rfl, ⟨uw 923 (by decide +kernel) rfl, uw 925 (by decide +kernel) rfl, uw 11 (by decide +kernel) rfl⟩⟩
theorem ca_8_97 : callOK 8 97 0 1 8 2 M_X8_setSheets := ⟨ok_X8_setSheets, by decide +kernel, uw 53 (by decide +kernel) rfl, by decide +kernel, rfl, rfl, ⟨uw 943 (by decide +kernel) rfl, uw 945 (by decide +kernel) rfl, uw 14 (by decide +kernel) rfl⟩⟩
theorem ca_8_100 : callOK 8 100 0 1 8 2 M_X8_isGathered := ⟨ok_X8_isGathered, by decide +kernel, uw 53 (by decide +kernel) rfl, by decide +kernel, rfl, rfl, ⟨uw 951 (by decide +kernel) rfl, uw 953 (by decide +kernel) rfl, uw 16 (by decide +kernel) rfl⟩⟩
theorem ca_8_103 : callOK 8 103 0 1 8 3 M_X8_allSheets := ⟨ok_X8_allSheets, by decide +kernel, uw 53 (by decide +kernel) rfl, by decide +kernel, rfl, rfl, ⟨uw 939 (by decide +kernel) rfl, uw 941 (by decide +kernel) rfl, uw 13 (by decide +kernel) rfl⟩⟩
theorem ca_8_106 : callOK 8 106 0 1 8 3 M_X8_nextSheet := ⟨ok_X8_nextSheet, by decide +kernel, uw 53 (by decide +kernel) rfl, by decide +kernel, rfl, rfl, ⟨uw 947 (by decide +kernel) rfl, uw 949 (by decide +kernel) rfl, uw 15 (by decide +kernel) rfl⟩⟩
theorem ca_8_109 : callOK 8 109 0 1 8 3 M_X8_nextCopy := ⟨ok_X8_nextCopy, by decide +kernel, uw 53 (by decide +kernel) rfl, by decide +kernel, rfl, rfl, ⟨uw 955 (by decide +kernel) rfl, uw 957 (by decide +kernel) rfl, uw 17 (by decide +kernel) rfl⟩⟩
theorem ca_8_112 : callOK 8 112 0 2 8 4 M_X8_tellJob := ⟨ok_X8_tellJob, by decide +kernel, uw 53 (by decide +kernel) rfl, by decide +kernel, rfl, rfl, ⟨uw 935 (by decide +kernel) rfl, uw 937 (by decide +kernel) rfl, uw 12 (by decide +kernel) rfl⟩⟩
theorem ca_8_115 : callOK 8 115 0 2 8 2 M_X8_isAhead := ⟨ok_X8_isAhead, by decide +kernel, uw 53 (by decide +kernel) rfl, by decide +kernel, rfl, rfl, ⟨uw 963 (by decide +kernel) rfl, uw 965 (by decide +kernel) rfl, uw 18 (by decide +kernel) rfl⟩⟩
theorem ca_8_118 : callOK 8 118 0 1 8 2 M_X8_staplesOf := ⟨ok_X8_staplesOf, by decide +kernel, uw 53 (by decide +kernel) rfl, by decide +kernel, rfl, rfl, ⟨uw 988 (by decide +kernel) rfl, uw 990 (by decide +kernel) rfl, uw 23 (by decide +kernel) rfl⟩⟩
theorem ca_8_121 : callOK 8 121 0 1 8 3 M_X8_hasSet := ⟨ok_X8_hasSet, by decide +kernel, uw 53 (by decide +kernel) rfl, by decide +kernel, rfl, rfl, ⟨uw 984 (by decide +kernel) rfl, uw 986 (by decide +kernel) rfl, uw 22 (by decide +kernel) rfl⟩⟩
theorem ca_8_124 : callOK 8 124 0 1 8 4 M_X8_leaves := ⟨ok_X8_leaves, by decide +kernel, uw 53 (by decide +kernel) rfl, by decide +kernel, rfl, rfl, ⟨uw 996 (by decide +kernel) rfl, uw 998 (by decide +kernel) rfl, uw 25 (by decide +kernel) rfl⟩⟩
theorem ca_8_127 : callOK 8 127 0 2 8 1 M_X8_takesPaper := ⟨ok_X8_takesPaper, by decide +kernel, uw 53 (by decide +kernel) rfl, by decide +kernel, rfl, rfl, ⟨uw 1004 (by decide +kernel) rfl, uw 1006 (by decide +kernel) rfl, uw 27 (by decide +kernel) rfl⟩⟩
theorem ca_8_131 : callOK 8 131 0 1 8 4 M_X8_sides := ⟨ok_X8_sides, by decide +kernel, uw 53 (by decide +kernel) rfl, by decide +kernel, rfl, rfl, ⟨uw 1008 (by decide +kernel) rfl, uw 1010 (by decide +kernel) rfl, uw 28 (by decide +kernel) rfl⟩⟩
theorem ca_8_134 : callOK 8 134 0 0 8 3 M_X8_nextJob := ⟨ok_X8_nextJob, by decide +kernel, uw 53 (by decide +kernel) rfl, by decide +kernel, rfl, rfl, ⟨uw 976 (by decide +kernel) rfl, uw 978 (by decide +kernel) rfl, uw 20 (by decide +kernel) rfl⟩⟩
theorem ca_8_138 : callOK 8 138 0 1 8 4 M_X8_whyStop := ⟨ok_X8_whyStop, by decide +kernel, uw 53 (by decide +kernel) rfl, by decide +kernel, rfl, rfl, ⟨uw 980 (by decide +kernel) rfl, uw 982 (by decide +kernel) rfl, uw 21 (by decide +kernel) rfl⟩⟩
theorem ca_8_141 : callOK 8 141 0 1 8 5 M_X8_stapled := ⟨ok_X8_stapled, by decide +kernel, uw 53 (by decide +kernel) rfl, by decide +kernel, rfl, rfl, ⟨uw 992 (by decide +kernel) rfl, uw 994 (by decide +kernel) rfl, uw 24 (by decide +kernel) rfl⟩⟩
theorem ca_8_144 : callOK 8 144 0 1 8 5 M_X8_beginsSheet := ⟨ok_X8_beginsSheet, by decide +kernel, uw 53 (by decide +kernel) rfl, by decide +kernel, rfl, rfl, ⟨uw 1000 (by decide +kernel) rfl, uw 1002 (by decide +kernel) rfl, uw 26 (by decide +kernel) rfl⟩⟩
theorem ca_8_147 : callOK 8 147 0 0 8 6 M_X8_finishes := ⟨ok_X8_finishes, by decide +kernel, uw 53 (by decide +kernel) rfl, by decide +kernel, rfl, rfl, ⟨uw 1016 (by decide +kernel) rfl, uw 1018 (by decide +kernel) rfl, uw 30 (by decide +kernel) rfl⟩⟩
theorem ca_8_151 : callOK 8 151 0 0 8 6 M_X8_begins := ⟨ok_X8_begins, by decide +kernel, uw 53 (by decide +kernel) rfl, by decide +kernel, rfl, rfl, ⟨uw 972 (by decide +kernel) rfl, uw 974 (by decide +kernel) rfl, uw 19 (by decide +kernel) rfl⟩⟩
theorem ca_8_154 : callOK 8 154 0 2 8 7 M_X8_goesBy := ⟨ok_X8_goesBy, by decide +kernel, uw 53 (by decide +kernel) rfl, by decide +kernel, rfl, rfl, ⟨uw 1012 (by decide +kernel) rfl, uw 1014 (by decide +kernel) rfl, uw 29 (by decide +kernel) rfl⟩⟩
theorem ca_8_157 : callOK 8 157 0 0 8 0 M_X8_keeps := ⟨ok_X8_keeps, by decide +kernel, uw 53 (by decide +kernel) rfl, by decide +kernel, rfl, rfl, ⟨uw 1024 (by decide +kernel) rfl, uw 1026 (by decide +kernel) rfl, uw 31 (by decide +kernel) rfl⟩⟩
theorem ca_8_160 : callOK 8 160 0 0 8 0 M_X8_takesBack := ⟨ok_X8_takesBack, by decide +kernel, uw 53 (by decide +kernel) rfl, by decide +kernel, rfl, rfl, ⟨uw 1028 (by decide +kernel) rfl, uw 1030 (by decide +kernel) rfl, uw 32 (by decide +kernel) rfl⟩⟩
theorem ca_8_163 : callOK 8 163 0 0 8 2 M_X8_heldOnes := ⟨ok_X8_heldOnes, by decide +kernel, uw 53 (by decide +kernel) rfl, by decide +kernel, rfl, rfl, ⟨uw 1036 (by decide +kernel) rfl, uw 1038 (by decide +kernel) rfl, uw 33 (by decide +kernel) rfl⟩⟩
theorem ca_8_172 : callOK 8 172 0 1 8 0 M_X8_isAt := ⟨ok_X8_isAt, by decide +kernel, uw 53 (by decide +kernel) rfl, by decide +kernel, rfl, rfl, ⟨uw 1084 (by decide +kernel) rfl, uw 1086 (by decide +kernel) rfl, uw 38 (by decide +kernel) rfl⟩⟩
theorem ca_8_175 : callOK 8 175 0 1 8 1 M_X8_takes := ⟨ok_X8_takes, by decide +kernel, uw 53 (by decide +kernel) rfl, by decide +kernel, rfl, rfl, ⟨uw 1080 (by decide +kernel) rfl, uw 1082 (by decide +kernel) rfl, uw 37 (by decide +kernel) rfl⟩⟩
theorem ca_8_198 : callOK 8 198 1 2 8 0 M_X8_letterAt := ⟨ok_X8_letterAt, by decide +kernel, uw 53 (by decide +kernel) rfl, by decide +kernel, rfl, rfl, ⟨uw 1096 (by decide +kernel) rfl, uw 1097 (by decide +kernel) rfl⟩⟩
theorem ca_8_201 : callOK 8 201 0 1 8 1 M_X8_takesWord := ⟨ok_X8_takesWord, by decide +kernel, uw 53 (by decide +kernel) rfl, by decide +kernel, rfl, rfl, ⟨uw 1092 (by decide +kernel) rfl, uw 1094 (by decide +kernel) rfl, uw 40 (by decide +kernel) rfl⟩⟩
theorem ca_8_204 : callOK 8 204 0 2 8 2 M_X8_takesNumber := ⟨ok_X8_takesNumber, by decide +kernel, uw 53 (by decide +kernel) rfl, by decide +kernel, rfl, rfl, ⟨uw 1076 (by decide +kernel) rfl, uw 1078 (by decide +kernel) rfl, uw 36 (by decide +kernel) rfl⟩⟩
theorem ca_8_207 : callOK 8 207 0 1 8 2 M_X8_takesOption := ⟨ok_X8_takesOption, by decide +kernel, uw 53 (by decide +kernel) rfl, by decide +kernel, rfl, rfl, ⟨uw 1088 (by decide +kernel) rfl, uw 1090 (by decide +kernel) rfl, uw 39 (by decide +kernel) rfl⟩⟩
theorem ca_8_210 : callOK 8 210 0 0 8 2 M_X8_takesSize := ⟨ok_X8_takesSize, by decide +kernel, uw 53 (by decide +kernel) rfl, by decide +kernel, rfl, rfl, ⟨uw 1109 (by decide +kernel) rfl, uw 1111 (by decide +kernel) rfl, uw 41 (by decide +kernel) rfl⟩⟩
theorem ca_8_214 : callOK 8 214 0 0 8 2 M_X8_takesKind := ⟨ok_X8_takesKind, by decide +kernel, uw 53 (by decide +kernel) rfl, by decide +kernel, rfl, rfl, ⟨uw 1113 (by decide +kernel) rfl, uw 1115 (by decide +kernel) rfl, uw 42 (by decide +kernel) rfl⟩⟩
theorem ca_8_220 : callOK 8 220 0 0 8 3 M_X8_takesJob := ⟨ok_X8_takesJob, by decide +kernel, uw 53 (by decide +kernel) rfl, by decide +kernel, rfl, rfl, ⟨uw 1072 (by decide +kernel) rfl, uw 1074 (by decide +kernel) rfl, uw 35 (by decide +kernel) rfl⟩⟩
theorem ca_8_229 : callOK 8 229 0 0 8 4 M_X8_hasFault := ⟨ok_X8_hasFault, by decide +kernel, uw 53 (by decide +kernel) rfl, by decide +kernel, rfl, rfl, ⟨uw 1068 (by decide +kernel) rfl, uw 1070 (by decide +kernel) rfl, uw 34 (by decide +kernel) rfl⟩⟩
theorem ca_9_9 : callOK 9 9 2 0 7 5 M_X7_init := ⟨ok_X7_init, by decide +kernel, uw 44 (by decide +kernel) rfl, by decide +kernel, rfl, rfl, ⟨uw 61 (by decide +kernel) rfl, uw 62 (by decide +kernel) rfl, rfl, rfl⟩⟩
theorem ca_9_12 : callOK 9 12 2 0 8 1 M_X8_init := ⟨ok_X8_init, by decide +kernel, uw 53 (by decide +kernel) rfl, by decide +kernel, rfl, rfl, ⟨uw 774 (by decide +kernel) rfl, uw 775 (by decide +kernel) rfl, rfl, rfl⟩⟩
theorem ca_9_13 : callOK 9 13 0 2 7 4 M_X7_fill := ⟨ok_X7_fill, by decide +kernel, uw 44 (by decide +kernel) rfl, by decide +kernel, rfl, rfl, ⟨uw 327 (by decide +kernel) rfl, uw 328 (by decide +kernel) rfl, uw 329 (by decide +kernel) rfl⟩⟩
theorem ca_9_17 : callOK 9 17 0 2 8 2 M_X8_fill := ⟨ok_X8_fill, by decide +kernel, uw 53 (by decide +kernel) rfl, by decide +kernel, rfl, rfl, ⟨uw 819 (by decide +kernel) rfl, uw 820 (by decide +kernel) rfl, uw 821 (by decide +kernel) rfl⟩⟩
theorem ca_9_18 : callOK 9 18 0 3 7 4 M_X7_load := ⟨ok_X7_load, by decide +kernel, uw 44 (by decide +kernel) rfl, by decide +kernel, rfl, rfl, ⟨uw 367 (by decide +kernel) rfl, uw 368 (by decide +kernel) rfl, uw 369 (by decide +kernel) rfl⟩⟩
theorem ca_9_22 : callOK 9 22 0 3 8 2 M_X8_load := ⟨ok_X8_load, by decide +kernel, uw 53 (by decide +kernel) rfl, by decide +kernel, rfl, rfl, ⟨uw 833 (by decide +kernel) rfl, uw 834 (by decide +kernel) rfl, uw 835 (by decide +kernel) rfl⟩⟩
theorem ca_9_23 : callOK 9 23 0 2 7 1 M_X7_tray := ⟨ok_X7_tray, by decide +kernel, uw 44 (by decide +kernel) rfl, by decide +kernel, rfl, rfl, ⟨uw 379 (by decide +kernel) rfl, uw 380 (by decide +kernel) rfl, uw 381 (by decide +kernel) rfl⟩⟩
theorem ca_9_26 : callOK 9 26 0 2 8 2 M_X8_tray := ⟨ok_X8_tray, by decide +kernel, uw 53 (by decide +kernel) rfl, by decide +kernel, rfl, rfl, ⟨uw 840 (by decide +kernel) rfl, uw 841 (by decide +kernel) rfl, uw 842 (by decide +kernel) rfl⟩⟩
theorem ca_9_27 : callOK 9 27 0 1 7 4 M_X7_staples := ⟨ok_X7_staples, by decide +kernel, uw 44 (by decide +kernel) rfl, by decide +kernel, rfl, rfl, ⟨uw 387 (by decide +kernel) rfl, uw 388 (by decide +kernel) rfl, uw 389 (by decide +kernel) rfl⟩⟩
theorem ca_9_31 : callOK 9 31 0 1 8 2 M_X8_staples := ⟨ok_X8_staples, by decide +kernel, uw 53 (by decide +kernel) rfl, by decide +kernel, rfl, rfl, ⟨uw 852 (by decide +kernel) rfl, uw 853 (by decide +kernel) rfl, uw 854 (by decide +kernel) rfl⟩⟩
theorem ca_9_32 : callOK 9 32 0 0 7 4 M_X7_emptyBin := ⟨ok_X7_emptyBin, by decide +kernel, uw 44 (by decide +kernel) rfl, by decide +kernel, rfl, rfl, ⟨uw 391 (by decide +kernel) rfl, uw 392 (by decide +kernel) rfl, uw 393 (by decide +kernel) rfl⟩⟩
theorem ca_9_36 : callOK 9 36 0 0 8 2 M_X8_emptyBin := ⟨ok_X8_emptyBin, by decide +kernel, uw 53 (by decide +kernel) rfl, by decide +kernel, rfl, rfl, ⟨uw 860 (by decide +kernel) rfl, uw 861 (by decide +kernel) rfl, uw 862 (by decide +kernel) rfl⟩⟩
theorem ca_9_37 : callOK 9 37 0 2 7 4 M_X7_set := ⟨ok_X7_set, by decide +kernel, uw 44 (by decide +kernel) rfl, by decide +kernel, rfl, rfl, ⟨uw 395 (by decide +kernel) rfl, uw 396 (by decide +kernel) rfl, uw 397 (by decide +kernel) rfl⟩⟩
theorem ca_9_40 : callOK 9 40 0 2 8 2 M_X8_set := ⟨ok_X8_set, by decide +kernel, uw 53 (by decide +kernel) rfl, by decide +kernel, rfl, rfl, ⟨uw 864 (by decide +kernel) rfl, uw 865 (by decide +kernel) rfl, uw 866 (by decide +kernel) rfl⟩⟩
theorem ca_9_41 : callOK 9 41 0 5 7 4 M_X7_job := ⟨ok_X7_job, by decide +kernel, uw 44 (by decide +kernel) rfl, by decide +kernel, rfl, rfl, ⟨uw 403 (by decide +kernel) rfl, uw 404 (by decide +kernel) rfl, uw 405 (by decide +kernel) rfl⟩⟩
theorem ca_9_45 : callOK 9 45 0 5 8 2 M_X8_job := ⟨ok_X8_job, by decide +kernel, uw 53 (by decide +kernel) rfl, by decide +kernel, rfl, rfl, ⟨uw 871 (by decide +kernel) rfl, uw 872 (by decide +kernel) rfl, uw 873 (by decide +kernel) rfl⟩⟩
theorem ca_9_46 : callOK 9 46 0 0 7 0 M_X7_refusal := ⟨ok_X7_refusal, by decide +kernel, uw 44 (by decide +kernel) rfl, by decide +kernel, rfl, rfl, ⟨uw 428 (by decide +kernel) rfl, uw 429 (by decide +kernel) rfl, uw 430 (by decide +kernel) rfl⟩⟩
theorem ca_9_49 : callOK 9 49 0 0 8 0 M_X8_refusal := ⟨ok_X8_refusal, by decide +kernel, uw 53 (by decide +kernel) rfl, by decide +kernel, rfl, rfl, ⟨uw 895 (by decide +kernel) rfl, uw 896 (by decide +kernel) rfl, uw 897 (by decide +kernel) rfl⟩⟩
theorem ca_9_50 : callOK 9 50 0 2 7 4 M_X7_hold := ⟨ok_X7_hold, by decide +kernel, uw 44 (by decide +kernel) rfl, by decide +kernel, rfl, rfl, ⟨uw 432 (by decide +kernel) rfl, uw 433 (by decide +kernel) rfl, uw 434 (by decide +kernel) rfl⟩⟩
theorem ca_9_53 : callOK 9 53 0 2 8 3 M_X8_hold := ⟨ok_X8_hold, by decide +kernel, uw 53 (by decide +kernel) rfl, by decide +kernel, rfl, rfl, ⟨uw 899 (by decide +kernel) rfl, uw 900 (by decide +kernel) rfl, uw 901 (by decide +kernel) rfl⟩⟩
theorem ca_9_54 : callOK 9 54 0 1 7 4 M_X7_cancel := ⟨ok_X7_cancel, by decide +kernel, uw 44 (by decide +kernel) rfl, by decide +kernel, rfl, rfl, ⟨uw 453 (by decide +kernel) rfl, uw 454 (by decide +kernel) rfl, uw 455 (by decide +kernel) rfl⟩⟩
theorem ca_9_57 : callOK 9 57 0 1 8 3 M_X8_cancel := ⟨ok_X8_cancel, by decide +kernel, uw 53 (by decide +kernel) rfl, by decide +kernel, rfl, rfl, ⟨uw 919 (by decide +kernel) rfl, uw 920 (by decide +kernel) rfl, uw 921 (by decide +kernel) rfl⟩⟩
theorem ca_9_58 : callOK 9 58 0 2 7 4 M_X7_priority := ⟨ok_X7_priority, by decide +kernel, uw 44 (by decide +kernel) rfl, by decide +kernel, rfl, rfl, ⟨uw 462 (by decide +kernel) rfl, uw 463 (by decide +kernel) rfl, uw 464 (by decide +kernel) rfl⟩⟩
theorem ca_9_61 : callOK 9 61 0 2 8 3 M_X8_priority := ⟨ok_X8_priority, by decide +kernel, uw 53 (by decide +kernel) rfl, by decide +kernel, rfl, rfl, ⟨uw 927 (by decide +kernel) rfl, uw 928 (by decide +kernel) rfl, uw 929 (by decide +kernel) rfl⟩⟩
theorem ca_9_62 : callOK 9 62 0 2 7 2 M_X7_jobInfo := ⟨ok_X7_jobInfo, by decide +kernel, uw 44 (by decide +kernel) rfl, by decide +kernel, rfl, rfl, ⟨uw 466 (by decide +kernel) rfl, uw 467 (by decide +kernel) rfl, uw 468 (by decide +kernel) rfl⟩⟩
theorem ca_9_65 : callOK 9 65 0 2 8 5 M_X8_jobInfo := ⟨ok_X8_jobInfo, by decide +kernel, uw 53 (by decide +kernel) rfl, by decide +kernel, rfl, rfl, ⟨uw 931 (by decide +kernel) rfl, uw 932 (by decide +kernel) rfl, uw 933 (by decide +kernel) rfl⟩⟩
theorem ca_9_66 : callOK 9 66 0 1 7 3 M_X7_queued := ⟨ok_X7_queued, by decide +kernel, uw 44 (by decide +kernel) rfl, by decide +kernel, rfl, rfl, ⟨uw 482 (by decide +kernel) rfl, uw 483 (by decide +kernel) rfl, uw 484 (by decide +kernel) rfl⟩⟩
theorem ca_9_69 : callOK 9 69 0 1 8 3 M_X8_queued := ⟨ok_X8_queued, by decide +kernel, uw 53 (by decide +kernel) rfl, by decide +kernel, rfl, rfl, ⟨uw 959 (by decide +kernel) rfl, uw 960 (by decide +kernel) rfl, uw 961 (by decide +kernel) rfl⟩⟩
theorem ca_9_70 : callOK 9 70 0 1 7 7 M_X7_run := ⟨ok_X7_run, by decide +kernel, uw 44 (by decide +kernel) rfl, by decide +kernel, rfl, rfl, ⟨uw 498 (by decide +kernel) rfl, uw 499 (by decide +kernel) rfl, uw 500 (by decide +kernel) rfl⟩⟩
theorem ca_9_73 : callOK 9 73 0 1 8 8 M_X8_run := ⟨ok_X8_run, by decide +kernel, uw 53 (by decide +kernel) rfl, by decide +kernel, rfl, rfl, ⟨uw 967 (by decide +kernel) rfl, uw 968 (by decide +kernel) rfl, uw 969 (by decide +kernel) rfl⟩⟩
theorem ca_9_74 : callOK 9 74 0 0 7 6 M_X7_stop := ⟨ok_X7_stop, by decide +kernel, uw 44 (by decide +kernel) rfl, by decide +kernel, rfl, rfl, ⟨uw 578 (by decide +kernel) rfl, uw 579 (by decide +kernel) rfl, uw 580 (by decide +kernel) rfl⟩⟩
theorem ca_9_77 : callOK 9 77 0 0 8 7 M_X8_stop := ⟨ok_X8_stop, by decide +kernel, uw 53 (by decide +kernel) rfl, by decide +kernel, rfl, rfl, ⟨uw 1020 (by decide +kernel) rfl, uw 1021 (by decide +kernel) rfl, uw 1022 (by decide +kernel) rfl⟩⟩
theorem ca_9_78 : callOK 9 78 0 1 7 2 M_X7_count := ⟨ok_X7_count, by decide +kernel, uw 44 (by decide +kernel) rfl, by decide +kernel, rfl, rfl, ⟨uw 584 (by decide +kernel) rfl, uw 585 (by decide +kernel) rfl, uw 586 (by decide +kernel) rfl⟩⟩
theorem ca_9_81 : callOK 9 81 0 1 8 3 M_X8_count := ⟨ok_X8_count, by decide +kernel, uw 53 (by decide +kernel) rfl, by decide +kernel, rfl, rfl, ⟨uw 1032 (by decide +kernel) rfl, uw 1033 (by decide +kernel) rfl, uw 1034 (by decide +kernel) rfl⟩⟩
theorem ca_9_82 : callOK 9 82 0 1 7 1 M_X7_account := ⟨ok_X7_account, by decide +kernel, uw 44 (by decide +kernel) rfl, by decide +kernel, rfl, rfl, ⟨uw 596 (by decide +kernel) rfl, uw 597 (by decide +kernel) rfl, uw 598 (by decide +kernel) rfl⟩⟩
theorem ca_9_85 : callOK 9 85 0 1 8 1 M_X8_account := ⟨ok_X8_account, by decide +kernel, uw 53 (by decide +kernel) rfl, by decide +kernel, rfl, rfl, ⟨uw 1040 (by decide +kernel) rfl, uw 1041 (by decide +kernel) rfl, uw 1042 (by decide +kernel) rfl⟩⟩
theorem ca_9_86 : callOK 9 86 0 2 7 1 M_X7_paper := ⟨ok_X7_paper, by decide +kernel, uw 44 (by decide +kernel) rfl, by decide +kernel, rfl, rfl, ⟨uw 600 (by decide +kernel) rfl, uw 601 (by decide +kernel) rfl, uw 602 (by decide +kernel) rfl⟩⟩
theorem ca_9_89 : callOK 9 89 0 2 8 1 M_X8_paper := ⟨ok_X8_paper, by decide +kernel, uw 53 (by decide +kernel) rfl, by decide +kernel, rfl, rfl, ⟨uw 1044 (by decide +kernel) rfl, uw 1045 (by decide +kernel) rfl, uw 1046 (by decide +kernel) rfl⟩⟩
theorem ca_9_90 : callOK 9 90 0 2 7 3 M_X7_lacking := ⟨ok_X7_lacking, by decide +kernel, uw 44 (by decide +kernel) rfl, by decide +kernel, rfl, rfl, ⟨uw 604 (by decide +kernel) rfl, uw 605 (by decide +kernel) rfl, uw 606 (by decide +kernel) rfl⟩⟩
theorem ca_9_93 : callOK 9 93 0 2 8 4 M_X8_lacking := ⟨ok_X8_lacking, by decide +kernel, uw 53 (by decide +kernel) rfl, by decide +kernel, rfl, rfl, ⟨uw 1048 (by decide +kernel) rfl, uw 1049 (by decide +kernel) rfl, uw 1050 (by decide +kernel) rfl⟩⟩
theorem ca_9_94 : callOK 9 94 0 1 7 7 M_X7_ticksTo := ⟨ok_X7_ticksTo, by decide +kernel, uw 44 (by decide +kernel) rfl, by decide +kernel, rfl, rfl, ⟨uw 625 (by decide +kernel) rfl, uw 626 (by decide +kernel) rfl, uw 627 (by decide +kernel) rfl⟩⟩
theorem ca_9_97 : callOK 9 97 0 1 8 8 M_X8_ticksTo := ⟨ok_X8_ticksTo, by decide +kernel, uw 53 (by decide +kernel) rfl, by decide +kernel, rfl, rfl, ⟨uw 1052 (by decide +kernel) rfl, uw 1053 (by decide +kernel) rfl, uw 1054 (by decide +kernel) rfl⟩⟩
theorem ca_9_98 : callOK 9 98 0 0 7 4 M_X7_undo := ⟨ok_X7_undo, by decide +kernel, uw 44 (by decide +kernel) rfl, by decide +kernel, rfl, rfl, ⟨uw 633 (by decide +kernel) rfl, uw 634 (by decide +kernel) rfl, uw 635 (by decide +kernel) rfl⟩⟩
theorem ca_9_101 : callOK 9 101 0 0 8 0 M_X8_undo := ⟨ok_X8_undo, by decide +kernel, uw 53 (by decide +kernel) rfl, by decide +kernel, rfl, rfl, ⟨uw 815 (by decide +kernel) rfl, uw 816 (by decide +kernel) rfl, uw 817 (by decide +kernel) rfl⟩⟩
theorem ca_9_102 : callOK 9 102 0 1 7 2 M_X7_type := ⟨ok_X7_type, by decide +kernel, uw 44 (by decide +kernel) rfl, by decide +kernel, rfl, rfl, ⟨uw 641 (by decide +kernel) rfl, uw 642 (by decide +kernel) rfl, uw 643 (by decide +kernel) rfl⟩⟩
theorem ca_9_105 : callOK 9 105 0 1 8 1 M_X8_type := ⟨ok_X8_type, by decide +kernel, uw 53 (by decide +kernel) rfl, by decide +kernel, rfl, rfl, ⟨uw 1056 (by decide +kernel) rfl, uw 1057 (by decide +kernel) rfl, uw 1058 (by decide +kernel) rfl⟩⟩
theorem ca_9_106 : callOK 9 106 0 0 7 0 M_X7_clearText := ⟨ok_X7_clearText, by decide +kernel, uw 44 (by decide +kernel) rfl, by decide +kernel, rfl, rfl, ⟨uw 650 (by decide +kernel) rfl, uw 651 (by decide +kernel) rfl, uw 652 (by decide +kernel) rfl⟩⟩
theorem ca_9_109 : callOK 9 109 0 0 8 0 M_X8_clearText := ⟨ok_X8_clearText, by decide +kernel, uw 53 (by decide +kernel) rfl, by decide +kernel, rfl, rfl, ⟨uw 1060 (by decide +kernel) rfl, uw 1061 (by decide +kernel) rfl, uw 1062 (by decide +kernel) rfl⟩⟩
theorem ca_9_110 : callOK 9 110 0 1 7 10 M_X7_fault := ⟨ok_X7_fault, by decide +kernel, uw 44 (by decide +kernel) rfl, by decide +kernel, rfl, rfl, ⟨uw 654 (by decide +kernel) rfl, uw 655 (by decide +kernel) rfl, uw 656 (by decide +kernel) rfl⟩⟩
theorem ca_9_113 : callOK 9 113 0 1 8 5 M_X8_fault := ⟨ok_X8_fault, by decide +kernel, uw 53 (by decide +kernel) rfl, by decide +kernel, rfl, rfl, ⟨uw 1064 (by decide +kernel) rfl, uw 1065 (by decide +kernel) rfl, uw 1066 (by decide +kernel) rfl⟩⟩
theorem ca_9_114 : callOK 9 114 0 0 7 10 M_X7_enter := ⟨ok_X7_enter, by decide +kernel, uw 44 (by decide +kernel) rfl, by decide +kernel, rfl, rfl, ⟨uw 767 (by decide +kernel) rfl, uw 768 (by decide +kernel) rfl, uw 769 (by decide +kernel) rfl⟩⟩
theorem ca_9_117 : callOK 9 117 0 0 8 5 M_X8_enter := ⟨ok_X8_enter, by decide +kernel, uw 53 (by decide +kernel) rfl, by decide +kernel, rfl, rfl, ⟨uw 1117 (by decide +kernel) rfl, uw 1118 (by decide +kernel) rfl, uw 1119 (by decide +kernel) rfl⟩⟩
def mthL_0 : List (Nat × Nat × Nat × Nat × Nat × MI) := [(17, 2, 0, 4, 3, M_X4_init), (22, 0, 0, 0, 0, M_X0_dropOldest), (25, 0, 1, 4, 2, M_X4_copyFrom)]
theorem mthO_0 : ∀ e ∈ mthL_0, callOK 0 e.1 e.2.1 e.2.2.1 e.2.2.2.1 e.2.2.2.2.1 e.2.2.2.2.2 := List.forall_mem_cons.mpr ⟨ca_0_17, List.forall_mem_cons.mpr ⟨ca_0_22, List.forall_mem_cons.mpr ⟨ca_0_25, fun _ h => absurd h List.not_mem_nil⟩⟩⟩
def mthL_1 : List (Nat × Nat × Nat × Nat × Nat × MI) := [(58, 3, 3, 7, 0, M_X7_isWithin), (62, 0, 0, 1, 0, M_X1_nextSheet), (66, 0, 0, 1, 0, M_X1_nextCopy)]
theorem mthO_1 : ∀ e ∈ mthL_1, callOK 1 e.1 e.2.1 e.2.2.1 e.2.2.2.1 e.2.2.2.2.1 e.2.2.2.2.2 := List.forall_mem_cons.mpr ⟨ca_1_58, List.forall_mem_cons.mpr ⟨ca_1_62, List.forall_mem_cons.mpr ⟨ca_1_66, fun _ h => absurd h List.not_mem_nil⟩⟩⟩
def mthL_2 : List (Nat × Nat × Nat × Nat × Nat × MI) := [(19, 3, 2, 7, 0, M_X7_isBelow), (33, 0, 0, 5, 0, M_X5_room), (51, 0, 3, 2, 8, M_X2_reasonOfNext), (55, 0, 1, 2, 7, M_X2_readJob), (59, 0, 0, 1, 1, M_X1_isInRange), (65, 0, 1, 1, 0, M_X1_staplingRefusal), (71, 0, 1, 2, 6, M_X2_readNumber), (77, 0, 0, 2, 6, M_X2_readHow), (80, 0, 0, 2, 6, M_X2_readSize), (83, 0, 0, 2, 6, M_X2_readKind), (86, 0, 5, 1, 0, M_X1_describe), (90, 0, 0, 2, 0, M_X2_digitAtPlace), (93, 0, 1, 2, 5, M_X2_skips), (105, 1, 1, 2, 0, M_X2_sizeWord), (109, 1, 1, 2, 0, M_X2_kindWord)]
theorem mthO_2 : ∀ e ∈ mthL_2, callOK 2 e.1 e.2.1 e.2.2.1 e.2.2.2.1 e.2.2.2.2.1 e.2.2.2.2.2 := List.forall_mem_cons.mpr ⟨ca_2_19, List.forall_mem_cons.mpr ⟨ca_2_33, List.forall_mem_cons.mpr ⟨ca_2_51, List.forall_mem_cons.mpr ⟨ca_2_55, List.forall_mem_cons.mpr ⟨ca_2_59, List.forall_mem_cons.mpr ⟨ca_2_65, List.forall_mem_cons.mpr ⟨ca_2_71, List.forall_mem_cons.mpr ⟨ca_2_77, List.forall_mem_cons.mpr ⟨ca_2_80, List.forall_mem_cons.mpr ⟨ca_2_83, List.forall_mem_cons.mpr ⟨ca_2_86, List.forall_mem_cons.mpr ⟨ca_2_90, List.forall_mem_cons.mpr ⟨ca_2_93, List.forall_mem_cons.mpr ⟨ca_2_105, List.forall_mem_cons.mpr ⟨ca_2_109, fun _ h => absurd h List.not_mem_nil⟩⟩⟩⟩⟩⟩⟩⟩⟩⟩⟩⟩⟩⟩⟩
def mthL_3 : List (Nat × Nat × Nat × Nat × Nat × MI) := [(37, 3, 2, 7, 0, M_X7_isBelow), (41, 0, 2, 3, 1, M_X3_add)]
theorem mthO_3 : ∀ e ∈ mthL_3, callOK 3 e.1 e.2.1 e.2.2.1 e.2.2.2.1 e.2.2.2.2.1 e.2.2.2.2.2 := List.forall_mem_cons.mpr ⟨ca_3_37, List.forall_mem_cons.mpr ⟨ca_3_41, fun _ h => absurd h List.not_mem_nil⟩⟩
def mthL_4 : List (Nat × Nat × Nat × Nat × Nat × MI) := [(11, 4, 0, 6, 1, M_X6_init), (20, 2, 0, 5, 2, M_X5_init), (27, 4, 0, 3, 1, M_X3_init), (52, 0, 1, 6, 1, M_X6_copyFrom), (56, 0, 1, 5, 1, M_X5_copyFrom), (59, 0, 1, 3, 1, M_X3_copyFrom), (71, 0, 0, 4, 5, M_X4_findWork), (75, 0, 1, 4, 5, M_X4_goOnWorking), (79, 0, 2, 3, 1, M_X3_add), (83, 0, 1, 5, 0, M_X5_find), (87, 0, 0, 5, 1, M_X5_next), (91, 0, 1, 4, 1, M_X4_stopReason), (95, 0, 0, 1, 0, M_X1_hasSetToStaple), (101, 0, 1, 4, 4, M_X4_beginStapling), (105, 0, 1, 4, 3, M_X4_beginSheet), (117, 0, 2, 6, 0, M_X6_lowestWith), (121, 0, 2, 6, 1, M_X6_takeSheet), (124, 0, 2, 3, 2, M_X3_addTakenSheet), (133, 0, 0, 1, 1, M_X1_sidesOfNextSheet), (136, 0, 1, 4, 3, M_X4_finishStapling), (144, 0, 0, 4, 4, M_X4_finishWork), (147, 0, 1, 4, 3, M_X4_finishSheet), (156, 0, 1, 4, 2, M_X4_removeIfFinished), (162, 0, 0, 1, 0, M_X1_isFinished), (165, 0, 1, 5, 0, M_X5_remove), (168, 0, 1, 4, 2, M_X4_giveUpWorkOf), (172, 0, 2, 5, 1, M_X5_sheetsToPrint), (175, 0, 2, 6, 0, M_X6_sheetsOf), (178, 0, 2, 1, 0, M_X1_isOn)]
theorem mthO_4 : ∀ e ∈ mthL_4, callOK 4 e.1 e.2.1 e.2.2.1 e.2.2.2.1 e.2.2.2.2.1 e.2.2.2.2.2 := List.forall_mem_cons.mpr ⟨ca_4_11, List.forall_mem_cons.mpr ⟨ca_4_20, List.forall_mem_cons.mpr ⟨ca_4_27, List.forall_mem_cons.mpr ⟨ca_4_52, List.forall_mem_cons.mpr ⟨ca_4_56, List.forall_mem_cons.mpr ⟨ca_4_59, List.forall_mem_cons.mpr ⟨ca_4_71, List.forall_mem_cons.mpr ⟨ca_4_75, List.forall_mem_cons.mpr ⟨ca_4_79, List.forall_mem_cons.mpr ⟨ca_4_83, List.forall_mem_cons.mpr ⟨ca_4_87, List.forall_mem_cons.mpr ⟨ca_4_91, List.forall_mem_cons.mpr ⟨ca_4_95, List.forall_mem_cons.mpr ⟨ca_4_101, List.forall_mem_cons.mpr ⟨ca_4_105, List.forall_mem_cons.mpr ⟨ca_4_117, List.forall_mem_cons.mpr ⟨ca_4_121, List.forall_mem_cons.mpr ⟨ca_4_124, List.forall_mem_cons.mpr ⟨ca_4_133, List.forall_mem_cons.mpr ⟨ca_4_136, List.forall_mem_cons.mpr ⟨ca_4_144, List.forall_mem_cons.mpr ⟨ca_4_147, List.forall_mem_cons.mpr ⟨ca_4_156, List.forall_mem_cons.mpr ⟨ca_4_162, List.forall_mem_cons.mpr ⟨ca_4_165, List.forall_mem_cons.mpr ⟨ca_4_168, List.forall_mem_cons.mpr ⟨ca_4_172, List.forall_mem_cons.mpr ⟨ca_4_175, List.forall_mem_cons.mpr ⟨ca_4_178, fun _ h => absurd h List.not_mem_nil⟩⟩⟩⟩⟩⟩⟩⟩⟩⟩⟩⟩⟩⟩⟩⟩⟩⟩⟩⟩⟩⟩⟩⟩⟩⟩⟩⟩⟩
def mthL_5 : List (Nat × Nat × Nat × Nat × Nat × MI) := [(21, 4, 0, 1, 1, M_X1_init), (28, 0, 1, 1, 0, M_X1_copyFrom), (42, 0, 2, 5, 0, M_X5_isAhead), (46, 0, 1, 5, 1, M_X5_jobsAheadOf), (50, 0, 2, 1, 0, M_X1_isOn)]
theorem mthO_5 : ∀ e ∈ mthL_5, callOK 5 e.1 e.2.1 e.2.2.1 e.2.2.2.1 e.2.2.2.2.1 e.2.2.2.2.2 := List.forall_mem_cons.mpr ⟨ca_5_21, List.forall_mem_cons.mpr ⟨ca_5_28, List.forall_mem_cons.mpr ⟨ca_5_42, List.forall_mem_cons.mpr ⟨ca_5_46, List.forall_mem_cons.mpr ⟨ca_5_50, fun _ h => absurd h List.not_mem_nil⟩⟩⟩⟩⟩
def mthL_6 : List (Nat × Nat × Nat × Nat × Nat × MI) := [(27, 3, 2, 7, 0, M_X7_isBelow), (31, 0, 2, 6, 0, M_X6_lowestWith)]
theorem mthO_6 : ∀ e ∈ mthL_6, callOK 6 e.1 e.2.1 e.2.2.1 e.2.2.2.1 e.2.2.2.2.1 e.2.2.2.2.2 := List.forall_mem_cons.mpr ⟨ca_6_27, List.forall_mem_cons.mpr ⟨ca_6_31, fun _ h => absurd h List.not_mem_nil⟩⟩
def mthL_7 : List (Nat × Nat × Nat × Nat × Nat × MI) := [(11, 2, 0, 4, 3, M_X4_init), (21, 2, 0, 0, 4, M_X0_init), (28, 4, 0, 2, 1, M_X2_init), (35, 4, 0, 1, 1, M_X1_init), (40, 1, 2, 7, 0, M_X7_isBelow), (44, 1, 3, 7, 0, M_X7_isWithin), (58, 0, 1, 0, 3, M_X0_keep), (62, 1, 2, 7, 1, M_X7_isPaper), (65, 0, 3, 6, 1, M_X6_change), (75, 0, 2, 6, 0, M_X6_sheetsOf), (95, 0, 5, 1, 0, M_X1_describe), (99, 0, 0, 1, 1, M_X1_isInRange), (103, 0, 1, 1, 0, M_X1_staplingRefusal), (114, 0, 0, 5, 0, M_X5_room), (120, 0, 1, 5, 1, M_X5_append), (124, 0, 1, 5, 0, M_X5_find), (132, 0, 1, 4, 3, M_X4_interrupt), (139, 0, 1, 5, 0, M_X5_remove), (146, 0, 2, 3, 1, M_X3_add), (155, 0, 1, 1, 1, M_X1_property), (158, 0, 1, 5, 2, M_X5_at), (168, 0, 1, 4, 6, M_X4_letGoBy), (172, 0, 1, 4, 2, M_X4_copyFrom), (175, 0, 0, 4, 5, M_X4_findWork), (181, 0, 0, 5, 0, M_X5_heldJobs), (205, 0, 1, 7, 1, M_X7_settingAt), (217, 0, 2, 4, 2, M_X4_lackingSheets), (220, 0, 1, 4, 6, M_X4_ticksUntilGone), (223, 0, 1, 0, 3, M_X0_restore), (227, 0, 1, 2, 1, M_X2_append), (230, 0, 2, 2, 9, M_X2_examine), (246, 0, 1, 2, 7, M_X2_readJob)]
theorem mthO_7 : ∀ e ∈ mthL_7, callOK 7 e.1 e.2.1 e.2.2.1 e.2.2.2.1 e.2.2.2.2.1 e.2.2.2.2.2 := List.forall_mem_cons.mpr ⟨ca_7_11, List.forall_mem_cons.mpr ⟨ca_7_21, List.forall_mem_cons.mpr ⟨ca_7_28, List.forall_mem_cons.mpr ⟨ca_7_35, List.forall_mem_cons.mpr ⟨ca_7_40, List.forall_mem_cons.mpr ⟨ca_7_44, List.forall_mem_cons.mpr ⟨ca_7_58, List.forall_mem_cons.mpr ⟨ca_7_62, List.forall_mem_cons.mpr ⟨ca_7_65, List.forall_mem_cons.mpr ⟨ca_7_75, List.forall_mem_cons.mpr ⟨ca_7_95, List.forall_mem_cons.mpr ⟨ca_7_99, List.forall_mem_cons.mpr ⟨ca_7_103, List.forall_mem_cons.mpr ⟨ca_7_114, List.forall_mem_cons.mpr ⟨ca_7_120, List.forall_mem_cons.mpr ⟨ca_7_124, List.forall_mem_cons.mpr ⟨ca_7_132, List.forall_mem_cons.mpr ⟨ca_7_139, List.forall_mem_cons.mpr ⟨ca_7_146, List.forall_mem_cons.mpr ⟨ca_7_155, List.forall_mem_cons.mpr ⟨ca_7_158, List.forall_mem_cons.mpr ⟨ca_7_168, List.forall_mem_cons.mpr ⟨ca_7_172, List.forall_mem_cons.mpr ⟨ca_7_175, List.forall_mem_cons.mpr ⟨ca_7_181, List.forall_mem_cons.mpr ⟨ca_7_205, List.forall_mem_cons.mpr ⟨ca_7_217, List.forall_mem_cons.mpr ⟨ca_7_220, List.forall_mem_cons.mpr ⟨ca_7_223, List.forall_mem_cons.mpr ⟨ca_7_227, List.forall_mem_cons.mpr ⟨ca_7_230, List.forall_mem_cons.mpr ⟨ca_7_246, fun _ h => absurd h List.not_mem_nil⟩⟩⟩⟩⟩⟩⟩⟩⟩⟩⟩⟩⟩⟩⟩⟩⟩⟩⟩⟩⟩⟩⟩⟩⟩⟩⟩⟩⟩⟩⟩⟩
def mthL_8 : List (Nat × Nat × Nat × Nat × Nat × MI) := [(32, 1, 3, 8, 0, M_X8_in), (36, 1, 1, 8, 1, M_X8_isTray), (40, 0, 0, 8, 0, M_X8_records), (43, 1, 2, 8, 1, M_X8_isPaper), (47, 0, 3, 8, 0, M_X8_isOf), (50, 0, 2, 8, 1, M_X8_sheetsOf), (54, 0, 2, 8, 1, M_X8_puts), (57, 1, 2, 8, 1, M_X8_isSetting), (60, 1, 1, 8, 0, M_X8_jobAt), (64, 0, 2, 8, 1, M_X8_of), (67, 1, 2, 8, 0, M_X8_setOf), (70, 1, 1, 8, 1, M_X8_isPages), (73, 1, 1, 8, 1, M_X8_isCopies), (76, 0, 3, 8, 1, M_X8_whyNot), (80, 0, 5, 8, 1, M_X8_comes), (84, 0, 0, 8, 0, M_X8_endsWork), (87, 0, 1, 8, 2, M_X8_placeOf), (90, 0, 1, 8, 1, M_X8_givesUp), (94, 0, 1, 8, 1, M_X8_goesJob), (97, 0, 1, 8, 2, M_X8_setSheets), (100, 0, 1, 8, 2, M_X8_isGathered), (103, 0, 1, 8, 3, M_X8_allSheets), (106, 0, 1, 8, 3, M_X8_nextSheet), (109, 0, 1, 8, 3, M_X8_nextCopy), (112, 0, 2, 8, 4, M_X8_tellJob), (115, 0, 2, 8, 2, M_X8_isAhead), (118, 0, 1, 8, 2, M_X8_staplesOf), (121, 0, 1, 8, 3, M_X8_hasSet), (124, 0, 1, 8, 4, M_X8_leaves), (127, 0, 2, 8, 1, M_X8_takesPaper), (131, 0, 1, 8, 4, M_X8_sides), (134, 0, 0, 8, 3, M_X8_nextJob), (138, 0, 1, 8, 4, M_X8_whyStop), (141, 0, 1, 8, 5, M_X8_stapled), (144, 0, 1, 8, 5, M_X8_beginsSheet), (147, 0, 0, 8, 6, M_X8_finishes), (151, 0, 0, 8, 6, M_X8_begins), (154, 0, 2, 8, 7, M_X8_goesBy), (157, 0, 0, 8, 0, M_X8_keeps), (160, 0, 0, 8, 0, M_X8_takesBack), (163, 0, 0, 8, 2, M_X8_heldOnes), (172, 0, 1, 8, 0, M_X8_isAt), (175, 0, 1, 8, 1, M_X8_takes), (198, 1, 2, 8, 0, M_X8_letterAt), (201, 0, 1, 8, 1, M_X8_takesWord), (204, 0, 2, 8, 2, M_X8_takesNumber), (207, 0, 1, 8, 2, M_X8_takesOption), (210, 0, 0, 8, 2, M_X8_takesSize), (214, 0, 0, 8, 2, M_X8_takesKind), (220, 0, 0, 8, 3, M_X8_takesJob), (229, 0, 0, 8, 4, M_X8_hasFault)]
theorem mthO_8 : ∀ e ∈ mthL_8, callOK 8 e.1 e.2.1 e.2.2.1 e.2.2.2.1 e.2.2.2.2.1 e.2.2.2.2.2 := List.forall_mem_cons.mpr ⟨ca_8_32, List.forall_mem_cons.mpr ⟨ca_8_36, List.forall_mem_cons.mpr ⟨ca_8_40, List.forall_mem_cons.mpr ⟨ca_8_43, List.forall_mem_cons.mpr ⟨ca_8_47, List.forall_mem_cons.mpr ⟨ca_8_50, List.forall_mem_cons.mpr ⟨ca_8_54, List.forall_mem_cons.mpr ⟨ca_8_57, List.forall_mem_cons.mpr ⟨ca_8_60, List.forall_mem_cons.mpr ⟨ca_8_64, List.forall_mem_cons.mpr ⟨ca_8_67, List.forall_mem_cons.mpr ⟨ca_8_70, List.forall_mem_cons.mpr ⟨ca_8_73, List.forall_mem_cons.mpr ⟨ca_8_76, List.forall_mem_cons.mpr ⟨ca_8_80, List.forall_mem_cons.mpr ⟨ca_8_84, List.forall_mem_cons.mpr ⟨ca_8_87, List.forall_mem_cons.mpr ⟨ca_8_90, List.forall_mem_cons.mpr ⟨ca_8_94, List.forall_mem_cons.mpr ⟨ca_8_97, List.forall_mem_cons.mpr ⟨ca_8_100, List.forall_mem_cons.mpr ⟨ca_8_103, List.forall_mem_cons.mpr ⟨ca_8_106, List.forall_mem_cons.mpr ⟨ca_8_109, List.forall_mem_cons.mpr ⟨ca_8_112, List.forall_mem_cons.mpr ⟨ca_8_115, List.forall_mem_cons.mpr ⟨ca_8_118, List.forall_mem_cons.mpr ⟨ca_8_121, List.forall_mem_cons.mpr ⟨ca_8_124, List.forall_mem_cons.mpr ⟨ca_8_127, List.forall_mem_cons.mpr ⟨ca_8_131, List.forall_mem_cons.mpr ⟨ca_8_134, List.forall_mem_cons.mpr ⟨ca_8_138, List.forall_mem_cons.mpr ⟨ca_8_141, List.forall_mem_cons.mpr ⟨ca_8_144, List.forall_mem_cons.mpr ⟨ca_8_147, List.forall_mem_cons.mpr ⟨ca_8_151, List.forall_mem_cons.mpr ⟨ca_8_154, List.forall_mem_cons.mpr ⟨ca_8_157, List.forall_mem_cons.mpr ⟨ca_8_160, List.forall_mem_cons.mpr ⟨ca_8_163, List.forall_mem_cons.mpr ⟨ca_8_172, List.forall_mem_cons.mpr ⟨ca_8_175, List.forall_mem_cons.mpr ⟨ca_8_198, List.forall_mem_cons.mpr ⟨ca_8_201, List.forall_mem_cons.mpr ⟨ca_8_204, List.forall_mem_cons.mpr ⟨ca_8_207, List.forall_mem_cons.mpr ⟨ca_8_210, List.forall_mem_cons.mpr ⟨ca_8_214, List.forall_mem_cons.mpr ⟨ca_8_220, List.forall_mem_cons.mpr ⟨ca_8_229, fun _ h => absurd h List.not_mem_nil⟩⟩⟩⟩⟩⟩⟩⟩⟩⟩⟩⟩⟩⟩⟩⟩⟩⟩⟩⟩⟩⟩⟩⟩⟩⟩⟩⟩⟩⟩⟩⟩⟩⟩⟩⟩⟩⟩⟩⟩⟩⟩⟩⟩⟩⟩⟩⟩⟩⟩⟩
def mthL_9 : List (Nat × Nat × Nat × Nat × Nat × MI) := [(9, 2, 0, 7, 5, M_X7_init), (12, 2, 0, 8, 1, M_X8_init), (13, 0, 2, 7, 4, M_X7_fill), (17, 0, 2, 8, 2, M_X8_fill), (18, 0, 3, 7, 4, M_X7_load), (22, 0, 3, 8, 2, M_X8_load), (23, 0, 2, 7, 1, M_X7_tray), (26, 0, 2, 8, 2, M_X8_tray), (27, 0, 1, 7, 4, M_X7_staples), (31, 0, 1, 8, 2, M_X8_staples), (32, 0, 0, 7, 4, M_X7_emptyBin), (36, 0, 0, 8, 2, M_X8_emptyBin), (37, 0, 2, 7, 4, M_X7_set), (40, 0, 2, 8, 2, M_X8_set), (41, 0, 5, 7, 4, M_X7_job), (45, 0, 5, 8, 2, M_X8_job), (46, 0, 0, 7, 0, M_X7_refusal), (49, 0, 0, 8, 0, M_X8_refusal), (50, 0, 2, 7, 4, M_X7_hold), (53, 0, 2, 8, 3, M_X8_hold), (54, 0, 1, 7, 4, M_X7_cancel), (57, 0, 1, 8, 3, M_X8_cancel), (58, 0, 2, 7, 4, M_X7_priority), (61, 0, 2, 8, 3, M_X8_priority), (62, 0, 2, 7, 2, M_X7_jobInfo), (65, 0, 2, 8, 5, M_X8_jobInfo), (66, 0, 1, 7, 3, M_X7_queued), (69, 0, 1, 8, 3, M_X8_queued), (70, 0, 1, 7, 7, M_X7_run), (73, 0, 1, 8, 8, M_X8_run), (74, 0, 0, 7, 6, M_X7_stop), (77, 0, 0, 8, 7, M_X8_stop), (78, 0, 1, 7, 2, M_X7_count), (81, 0, 1, 8, 3, M_X8_count), (82, 0, 1, 7, 1, M_X7_account), (85, 0, 1, 8, 1, M_X8_account), (86, 0, 2, 7, 1, M_X7_paper), (89, 0, 2, 8, 1, M_X8_paper), (90, 0, 2, 7, 3, M_X7_lacking), (93, 0, 2, 8, 4, M_X8_lacking), (94, 0, 1, 7, 7, M_X7_ticksTo), (97, 0, 1, 8, 8, M_X8_ticksTo), (98, 0, 0, 7, 4, M_X7_undo), (101, 0, 0, 8, 0, M_X8_undo), (102, 0, 1, 7, 2, M_X7_type), (105, 0, 1, 8, 1, M_X8_type), (106, 0, 0, 7, 0, M_X7_clearText), (109, 0, 0, 8, 0, M_X8_clearText), (110, 0, 1, 7, 10, M_X7_fault), (113, 0, 1, 8, 5, M_X8_fault), (114, 0, 0, 7, 10, M_X7_enter), (117, 0, 0, 8, 5, M_X8_enter)]
theorem mthO_9 : ∀ e ∈ mthL_9, callOK 9 e.1 e.2.1 e.2.2.1 e.2.2.2.1 e.2.2.2.2.1 e.2.2.2.2.2 := List.forall_mem_cons.mpr ⟨ca_9_9, List.forall_mem_cons.mpr ⟨ca_9_12, List.forall_mem_cons.mpr ⟨ca_9_13, List.forall_mem_cons.mpr ⟨ca_9_17, List.forall_mem_cons.mpr ⟨ca_9_18, List.forall_mem_cons.mpr ⟨ca_9_22, List.forall_mem_cons.mpr ⟨ca_9_23, List.forall_mem_cons.mpr ⟨ca_9_26, List.forall_mem_cons.mpr ⟨ca_9_27, List.forall_mem_cons.mpr ⟨ca_9_31, List.forall_mem_cons.mpr ⟨ca_9_32, List.forall_mem_cons.mpr ⟨ca_9_36, List.forall_mem_cons.mpr ⟨ca_9_37, List.forall_mem_cons.mpr ⟨ca_9_40, List.forall_mem_cons.mpr ⟨ca_9_41, List.forall_mem_cons.mpr ⟨ca_9_45, List.forall_mem_cons.mpr ⟨ca_9_46, List.forall_mem_cons.mpr ⟨ca_9_49, List.forall_mem_cons.mpr ⟨ca_9_50, List.forall_mem_cons.mpr ⟨ca_9_53, List.forall_mem_cons.mpr ⟨ca_9_54, List.forall_mem_cons.mpr ⟨ca_9_57, List.forall_mem_cons.mpr ⟨ca_9_58, List.forall_mem_cons.mpr ⟨ca_9_61, List.forall_mem_cons.mpr ⟨ca_9_62, List.forall_mem_cons.mpr ⟨ca_9_65, List.forall_mem_cons.mpr ⟨ca_9_66, List.forall_mem_cons.mpr ⟨ca_9_69, List.forall_mem_cons.mpr ⟨ca_9_70, List.forall_mem_cons.mpr ⟨ca_9_73, List.forall_mem_cons.mpr ⟨ca_9_74, List.forall_mem_cons.mpr ⟨ca_9_77, List.forall_mem_cons.mpr ⟨ca_9_78, List.forall_mem_cons.mpr ⟨ca_9_81, List.forall_mem_cons.mpr ⟨ca_9_82, List.forall_mem_cons.mpr ⟨ca_9_85, List.forall_mem_cons.mpr ⟨ca_9_86, List.forall_mem_cons.mpr ⟨ca_9_89, List.forall_mem_cons.mpr ⟨ca_9_90, List.forall_mem_cons.mpr ⟨ca_9_93, List.forall_mem_cons.mpr ⟨ca_9_94, List.forall_mem_cons.mpr ⟨ca_9_97, List.forall_mem_cons.mpr ⟨ca_9_98, List.forall_mem_cons.mpr ⟨ca_9_101, List.forall_mem_cons.mpr ⟨ca_9_102, List.forall_mem_cons.mpr ⟨ca_9_105, List.forall_mem_cons.mpr ⟨ca_9_106, List.forall_mem_cons.mpr ⟨ca_9_109, List.forall_mem_cons.mpr ⟨ca_9_110, List.forall_mem_cons.mpr ⟨ca_9_113, List.forall_mem_cons.mpr ⟨ca_9_114, List.forall_mem_cons.mpr ⟨ca_9_117, fun _ h => absurd h List.not_mem_nil⟩⟩⟩⟩⟩⟩⟩⟩⟩⟩⟩⟩⟩⟩⟩⟩⟩⟩⟩⟩⟩⟩⟩⟩⟩⟩⟩⟩⟩⟩⟩⟩⟩⟩⟩⟩⟩⟩⟩⟩⟩⟩⟩⟩⟩⟩⟩⟩⟩⟩⟩⟩
def mthL (c : Nat) : List (Nat × Nat × Nat × Nat × Nat × MI) := match c with
  | 0 => mthL_0
  | 1 => mthL_1
  | 2 => mthL_2
  | 3 => mthL_3
  | 4 => mthL_4
  | 5 => mthL_5
  | 6 => mthL_6
  | 7 => mthL_7
  | 8 => mthL_8
  | 9 => mthL_9
  | _ => []
theorem mthO : ∀ c, ∀ e ∈ mthL c, callOK c e.1 e.2.1 e.2.2.1 e.2.2.2.1 e.2.2.2.2.1 e.2.2.2.2.2 := by
  intro c
  match c with
  | 0 => exact mthO_0
  | 1 => exact mthO_1
  | 2 => exact mthO_2
  | 3 => exact mthO_3
  | 4 => exact mthO_4
  | 5 => exact mthO_5
  | 6 => exact mthO_6
  | 7 => exact mthO_7
  | 8 => exact mthO_8
  | 9 => exact mthO_9
  | n + 10 => exact fun e h => absurd h List.not_mem_nil
def mthR (c i : Nat) : Option (Nat × Nat × Nat × Nat × MI) := ((mthL c).find? (fun e => e.1 == i)).map (fun e => e.2)
theorem mthOK {c i kd n cl lv : Nat} {M : MI} (h : mthR c i = some (kd, n, cl, lv, M)) : callOK c i kd n cl lv M := by
  unfold mthR at h
  cases hf : (mthL c).find? (fun e => e.1 == i) with
  | none => rw [hf] at h; cases h
  | some e =>
    rw [hf] at h
    have h1 := List.find?_some hf
    have h2 := mthO c e (List.mem_of_find?_eq_some hf)
    obtain ⟨a, b, d, f, u, v⟩ := e
    simp only [Option.map_some, Option.some.injEq, Prod.mk.injEq] at h
    simp only [beq_iff_eq] at h1
    obtain ⟨rfl, rfl, rfl, rfl, rfl⟩ := h
    subst h1
    exact h2
theorem mr_0 : mthR 0 17 = some (2, 0, 4, 3, M_X4_init) ∧ mthR 0 22 = some (0, 0, 0, 0, M_X0_dropOldest) ∧ mthR 0 25 = some (0, 1, 4, 2, M_X4_copyFrom) := ⟨rfl, rfl, rfl⟩
theorem mr_1 : mthR 1 58 = some (3, 3, 7, 0, M_X7_isWithin) ∧ mthR 1 62 = some (0, 0, 1, 0, M_X1_nextSheet) ∧ mthR 1 66 = some (0, 0, 1, 0, M_X1_nextCopy) := ⟨rfl, rfl, rfl⟩
theorem mr_2 : mthR 2 19 = some (3, 2, 7, 0, M_X7_isBelow) ∧ mthR 2 33 = some (0, 0, 5, 0, M_X5_room) ∧ mthR 2 51 = some (0, 3, 2, 8, M_X2_reasonOfNext) ∧ mthR 2 55 = some (0, 1, 2, 7, M_X2_readJob) ∧ mthR 2 59 = some (0, 0, 1, 1, M_X1_isInRange) ∧ mthR 2 65 = some (0, 1, 1, 0, M_X1_staplingRefusal) ∧ mthR 2 71 = some (0, 1, 2, 6, M_X2_readNumber) ∧ mthR 2 77 = some (0, 0, 2, 6, M_X2_readHow) ∧ mthR 2 80 = some (0, 0, 2, 6, M_X2_readSize) ∧ mthR 2 83 = some (0, 0, 2, 6, M_X2_readKind) ∧ mthR 2 86 = some (0, 5, 1, 0, M_X1_describe) ∧ mthR 2 90 = some (0, 0, 2, 0, M_X2_digitAtPlace) ∧ mthR 2 93 = some (0, 1, 2, 5, M_X2_skips) ∧ mthR 2 105 = some (1, 1, 2, 0, M_X2_sizeWord) ∧ mthR 2 109 = some (1, 1, 2, 0, M_X2_kindWord) := ⟨rfl, rfl, rfl, rfl, rfl, rfl, rfl, rfl, rfl, rfl, rfl, rfl, rfl, rfl, rfl⟩
theorem mr_3 : mthR 3 37 = some (3, 2, 7, 0, M_X7_isBelow) ∧ mthR 3 41 = some (0, 2, 3, 1, M_X3_add) := ⟨rfl, rfl⟩
theorem mr_4 : mthR 4 11 = some (4, 0, 6, 1, M_X6_init) ∧ mthR 4 20 = some (2, 0, 5, 2, M_X5_init) ∧ mthR 4 27 = some (4, 0, 3, 1, M_X3_init) ∧ mthR 4 52 = some (0, 1, 6, 1, M_X6_copyFrom) ∧ mthR 4 56 = some (0, 1, 5, 1, M_X5_copyFrom) ∧ mthR 4 59 = some (0, 1, 3, 1, M_X3_copyFrom) ∧ mthR 4 71 = some (0, 0, 4, 5, M_X4_findWork) ∧ mthR 4 75 = some (0, 1, 4, 5, M_X4_goOnWorking) ∧ mthR 4 79 = some (0, 2, 3, 1, M_X3_add) ∧ mthR 4 83 = some (0, 1, 5, 0, M_X5_find) ∧ mthR 4 87 = some (0, 0, 5, 1, M_X5_next) ∧ mthR 4 91 = some (0, 1, 4, 1, M_X4_stopReason) ∧ mthR 4 95 = some (0, 0, 1, 0, M_X1_hasSetToStaple) ∧ mthR 4 101 = some (0, 1, 4, 4, M_X4_beginStapling) ∧ mthR 4 105 = some (0, 1, 4, 3, M_X4_beginSheet) ∧ mthR 4 117 = some (0, 2, 6, 0, M_X6_lowestWith) ∧ mthR 4 121 = some (0, 2, 6, 1, M_X6_takeSheet) ∧ mthR 4 124 = some (0, 2, 3, 2, M_X3_addTakenSheet) ∧ mthR 4 133 = some (0, 0, 1, 1, M_X1_sidesOfNextSheet) ∧ mthR 4 136 = some (0, 1, 4, 3, M_X4_finishStapling) ∧ mthR 4 144 = some (0, 0, 4, 4, M_X4_finishWork) ∧ mthR 4 147 = some (0, 1, 4, 3, M_X4_finishSheet) ∧ mthR 4 156 = some (0, 1, 4, 2, M_X4_removeIfFinished) ∧ mthR 4 162 = some (0, 0, 1, 0, M_X1_isFinished) ∧ mthR 4 165 = some (0, 1, 5, 0, M_X5_remove) ∧ mthR 4 168 = some (0, 1, 4, 2, M_X4_giveUpWorkOf) ∧ mthR 4 172 = some (0, 2, 5, 1, M_X5_sheetsToPrint) ∧ mthR 4 175 = some (0, 2, 6, 0, M_X6_sheetsOf) ∧ mthR 4 178 = some (0, 2, 1, 0, M_X1_isOn) := ⟨rfl, rfl, rfl, rfl, rfl, rfl, rfl, rfl, rfl, rfl, rfl, rfl, rfl, rfl, rfl, rfl, rfl, rfl, rfl, rfl, rfl, rfl, rfl, rfl, rfl, rfl, rfl, rfl, rfl⟩
theorem mr_5 : mthR 5 21 = some (4, 0, 1, 1, M_X1_init) ∧ mthR 5 28 = some (0, 1, 1, 0, M_X1_copyFrom) ∧ mthR 5 42 = some (0, 2, 5, 0, M_X5_isAhead) ∧ mthR 5 46 = some (0, 1, 5, 1, M_X5_jobsAheadOf) ∧ mthR 5 50 = some (0, 2, 1, 0, M_X1_isOn) := ⟨rfl, rfl, rfl, rfl, rfl⟩
theorem mr_6 : mthR 6 27 = some (3, 2, 7, 0, M_X7_isBelow) ∧ mthR 6 31 = some (0, 2, 6, 0, M_X6_lowestWith) := ⟨rfl, rfl⟩
theorem mr_7 : mthR 7 11 = some (2, 0, 4, 3, M_X4_init) ∧ mthR 7 21 = some (2, 0, 0, 4, M_X0_init) ∧ mthR 7 28 = some (4, 0, 2, 1, M_X2_init) ∧ mthR 7 35 = some (4, 0, 1, 1, M_X1_init) ∧ mthR 7 40 = some (1, 2, 7, 0, M_X7_isBelow) ∧ mthR 7 44 = some (1, 3, 7, 0, M_X7_isWithin) ∧ mthR 7 58 = some (0, 1, 0, 3, M_X0_keep) ∧ mthR 7 62 = some (1, 2, 7, 1, M_X7_isPaper) ∧ mthR 7 65 = some (0, 3, 6, 1, M_X6_change) ∧ mthR 7 75 = some (0, 2, 6, 0, M_X6_sheetsOf) ∧ mthR 7 95 = some (0, 5, 1, 0, M_X1_describe) ∧ mthR 7 99 = some (0, 0, 1, 1, M_X1_isInRange) ∧ mthR 7 103 = some (0, 1, 1, 0, M_X1_staplingRefusal) ∧ mthR 7 114 = some (0, 0, 5, 0, M_X5_room) ∧ mthR 7 120 = some (0, 1, 5, 1, M_X5_append) ∧ mthR 7 124 = some (0, 1, 5, 0, M_X5_find) ∧ mthR 7 132 = some (0, 1, 4, 3, M_X4_interrupt) ∧ mthR 7 139 = some (0, 1, 5, 0, M_X5_remove) ∧ mthR 7 146 = some (0, 2, 3, 1, M_X3_add) ∧ mthR 7 155 = some (0, 1, 1, 1, M_X1_property) ∧ mthR 7 158 = some (0, 1, 5, 2, M_X5_at) ∧ mthR 7 168 = some (0, 1, 4, 6, M_X4_letGoBy) ∧ mthR 7 172 = some (0, 1, 4, 2, M_X4_copyFrom) ∧ mthR 7 175 = some (0, 0, 4, 5, M_X4_findWork) ∧ mthR 7 181 = some (0, 0, 5, 0, M_X5_heldJobs) ∧ mthR 7 205 = some (0, 1, 7, 1, M_X7_settingAt) ∧ mthR 7 217 = some (0, 2, 4, 2, M_X4_lackingSheets) ∧ mthR 7 220 = some (0, 1, 4, 6, M_X4_ticksUntilGone) ∧ mthR 7 223 = some (0, 1, 0, 3, M_X0_restore) ∧ mthR 7 227 = some (0, 1, 2, 1, M_X2_append) ∧ mthR 7 230 = some (0, 2, 2, 9, M_X2_examine) ∧ mthR 7 246 = some (0, 1, 2, 7, M_X2_readJob) := ⟨rfl, rfl, rfl, rfl, rfl, rfl, rfl, rfl, rfl, rfl, rfl, rfl, rfl, rfl, rfl, rfl, rfl, rfl, rfl, rfl, rfl, rfl, rfl, rfl, rfl, rfl, rfl, rfl, rfl, rfl, rfl, rfl⟩
theorem mr_8 : mthR 8 32 = some (1, 3, 8, 0, M_X8_in) ∧ mthR 8 36 = some (1, 1, 8, 1, M_X8_isTray) ∧ mthR 8 40 = some (0, 0, 8, 0, M_X8_records) ∧ mthR 8 43 = some (1, 2, 8, 1, M_X8_isPaper) ∧ mthR 8 47 = some (0, 3, 8, 0, M_X8_isOf) ∧ mthR 8 50 = some (0, 2, 8, 1, M_X8_sheetsOf) ∧ mthR 8 54 = some (0, 2, 8, 1, M_X8_puts) ∧ mthR 8 57 = some (1, 2, 8, 1, M_X8_isSetting) ∧ mthR 8 60 = some (1, 1, 8, 0, M_X8_jobAt) ∧ mthR 8 64 = some (0, 2, 8, 1, M_X8_of) ∧ mthR 8 67 = some (1, 2, 8, 0, M_X8_setOf) ∧ mthR 8 70 = some (1, 1, 8, 1, M_X8_isPages) ∧ mthR 8 73 = some (1, 1, 8, 1, M_X8_isCopies) ∧ mthR 8 76 = some (0, 3, 8, 1, M_X8_whyNot) ∧ mthR 8 80 = some (0, 5, 8, 1, M_X8_comes) ∧ mthR 8 84 = some (0, 0, 8, 0, M_X8_endsWork) ∧ mthR 8 87 = some (0, 1, 8, 2, M_X8_placeOf) ∧ mthR 8 90 = some (0, 1, 8, 1, M_X8_givesUp) ∧ mthR 8 94 = some (0, 1, 8, 1, M_X8_goesJob) ∧ mthR 8 97 = some (0, 1, 8, 2, M_X8_setSheets) ∧ mthR 8 100 = some (0, 1, 8, 2, M_X8_isGathered) ∧ mthR 8 103 = some (0, 1, 8, 3, M_X8_allSheets) ∧ mthR 8 106 = some (0, 1, 8, 3, M_X8_nextSheet) ∧ mthR 8 109 = some (0, 1, 8, 3, M_X8_nextCopy) ∧ mthR 8 112 = some (0, 2, 8, 4, M_X8_tellJob) ∧ mthR 8 115 = some (0, 2, 8, 2, M_X8_isAhead) ∧ mthR 8 118 = some (0, 1, 8, 2, M_X8_staplesOf) ∧ mthR 8 121 = some (0, 1, 8, 3, M_X8_hasSet) ∧ mthR 8 124 = some (0, 1, 8, 4, M_X8_leaves) ∧ mthR 8 127 = some (0, 2, 8, 1, M_X8_takesPaper) ∧ mthR 8 131 = some (0, 1, 8, 4, M_X8_sides) ∧ mthR 8 134 = some (0, 0, 8, 3, M_X8_nextJob) ∧ mthR 8 138 = some (0, 1, 8, 4, M_X8_whyStop) ∧ mthR 8 141 = some (0, 1, 8, 5, M_X8_stapled) ∧ mthR 8 144 = some (0, 1, 8, 5, M_X8_beginsSheet) ∧ mthR 8 147 = some (0, 0, 8, 6, M_X8_finishes) ∧ mthR 8 151 = some (0, 0, 8, 6, M_X8_begins) ∧ mthR 8 154 = some (0, 2, 8, 7, M_X8_goesBy) ∧ mthR 8 157 = some (0, 0, 8, 0, M_X8_keeps) ∧ mthR 8 160 = some (0, 0, 8, 0, M_X8_takesBack) ∧ mthR 8 163 = some (0, 0, 8, 2, M_X8_heldOnes) ∧ mthR 8 172 = some (0, 1, 8, 0, M_X8_isAt) ∧ mthR 8 175 = some (0, 1, 8, 1, M_X8_takes) ∧ mthR 8 198 = some (1, 2, 8, 0, M_X8_letterAt) ∧ mthR 8 201 = some (0, 1, 8, 1, M_X8_takesWord) ∧ mthR 8 204 = some (0, 2, 8, 2, M_X8_takesNumber) ∧ mthR 8 207 = some (0, 1, 8, 2, M_X8_takesOption) ∧ mthR 8 210 = some (0, 0, 8, 2, M_X8_takesSize) ∧ mthR 8 214 = some (0, 0, 8, 2, M_X8_takesKind) ∧ mthR 8 220 = some (0, 0, 8, 3, M_X8_takesJob) ∧ mthR 8 229 = some (0, 0, 8, 4, M_X8_hasFault) := ⟨rfl, rfl, rfl, rfl, rfl, rfl, rfl, rfl, rfl, rfl, rfl, rfl, rfl, rfl, rfl, rfl, rfl, rfl, rfl, rfl, rfl, rfl, rfl, rfl, rfl, rfl, rfl, rfl, rfl, rfl, rfl, rfl, rfl, rfl, rfl, rfl, rfl, rfl, rfl, rfl, rfl, rfl, rfl, rfl, rfl, rfl, rfl, rfl, rfl, rfl, rfl⟩
theorem mr_9 : mthR 9 9 = some (2, 0, 7, 5, M_X7_init) ∧ mthR 9 12 = some (2, 0, 8, 1, M_X8_init) ∧ mthR 9 13 = some (0, 2, 7, 4, M_X7_fill) ∧ mthR 9 17 = some (0, 2, 8, 2, M_X8_fill) ∧ mthR 9 18 = some (0, 3, 7, 4, M_X7_load) ∧ mthR 9 22 = some (0, 3, 8, 2, M_X8_load) ∧ mthR 9 23 = some (0, 2, 7, 1, M_X7_tray) ∧ mthR 9 26 = some (0, 2, 8, 2, M_X8_tray) ∧ mthR 9 27 = some (0, 1, 7, 4, M_X7_staples) ∧ mthR 9 31 = some (0, 1, 8, 2, M_X8_staples) ∧ mthR 9 32 = some (0, 0, 7, 4, M_X7_emptyBin) ∧ mthR 9 36 = some (0, 0, 8, 2, M_X8_emptyBin) ∧ mthR 9 37 = some (0, 2, 7, 4, M_X7_set) ∧ mthR 9 40 = some (0, 2, 8, 2, M_X8_set) ∧ mthR 9 41 = some (0, 5, 7, 4, M_X7_job) ∧ mthR 9 45 = some (0, 5, 8, 2, M_X8_job) ∧ mthR 9 46 = some (0, 0, 7, 0, M_X7_refusal) ∧ mthR 9 49 = some (0, 0, 8, 0, M_X8_refusal) ∧ mthR 9 50 = some (0, 2, 7, 4, M_X7_hold) ∧ mthR 9 53 = some (0, 2, 8, 3, M_X8_hold) ∧ mthR 9 54 = some (0, 1, 7, 4, M_X7_cancel) ∧ mthR 9 57 = some (0, 1, 8, 3, M_X8_cancel) ∧ mthR 9 58 = some (0, 2, 7, 4, M_X7_priority) ∧ mthR 9 61 = some (0, 2, 8, 3, M_X8_priority) ∧ mthR 9 62 = some (0, 2, 7, 2, M_X7_jobInfo) ∧ mthR 9 65 = some (0, 2, 8, 5, M_X8_jobInfo) ∧ mthR 9 66 = some (0, 1, 7, 3, M_X7_queued) ∧ mthR 9 69 = some (0, 1, 8, 3, M_X8_queued) ∧ mthR 9 70 = some (0, 1, 7, 7, M_X7_run) ∧ mthR 9 73 = some (0, 1, 8, 8, M_X8_run) ∧ mthR 9 74 = some (0, 0, 7, 6, M_X7_stop) ∧ mthR 9 77 = some (0, 0, 8, 7, M_X8_stop) ∧ mthR 9 78 = some (0, 1, 7, 2, M_X7_count) ∧ mthR 9 81 = some (0, 1, 8, 3, M_X8_count) ∧ mthR 9 82 = some (0, 1, 7, 1, M_X7_account) ∧ mthR 9 85 = some (0, 1, 8, 1, M_X8_account) ∧ mthR 9 86 = some (0, 2, 7, 1, M_X7_paper) ∧ mthR 9 89 = some (0, 2, 8, 1, M_X8_paper) ∧ mthR 9 90 = some (0, 2, 7, 3, M_X7_lacking) ∧ mthR 9 93 = some (0, 2, 8, 4, M_X8_lacking) ∧ mthR 9 94 = some (0, 1, 7, 7, M_X7_ticksTo) ∧ mthR 9 97 = some (0, 1, 8, 8, M_X8_ticksTo) ∧ mthR 9 98 = some (0, 0, 7, 4, M_X7_undo) ∧ mthR 9 101 = some (0, 0, 8, 0, M_X8_undo) ∧ mthR 9 102 = some (0, 1, 7, 2, M_X7_type) ∧ mthR 9 105 = some (0, 1, 8, 1, M_X8_type) ∧ mthR 9 106 = some (0, 0, 7, 0, M_X7_clearText) ∧ mthR 9 109 = some (0, 0, 8, 0, M_X8_clearText) ∧ mthR 9 110 = some (0, 1, 7, 10, M_X7_fault) ∧ mthR 9 113 = some (0, 1, 8, 5, M_X8_fault) ∧ mthR 9 114 = some (0, 0, 7, 10, M_X7_enter) ∧ mthR 9 117 = some (0, 0, 8, 5, M_X8_enter) := ⟨rfl, rfl, rfl, rfl, rfl, rfl, rfl, rfl, rfl, rfl, rfl, rfl, rfl, rfl, rfl, rfl, rfl, rfl, rfl, rfl, rfl, rfl, rfl, rfl, rfl, rfl, rfl, rfl, rfl, rfl, rfl, rfl, rfl, rfl, rfl, rfl, rfl, rfl, rfl, rfl, rfl, rfl, rfl, rfl, rfl, rfl, rfl, rfl, rfl, rfl, rfl, rfl⟩
def othL : List (Nat × Nat × Nat × Nat) := [(7, 3, 0, 64), (0, 3, 0, 263), (1, 3, 0, 105), (2, 3, 0, 280), (2, 128, 4, 684), (2, 132, 5, 694), (3, 3, 0, 188), (3, 24, 1, 366), (4, 3, 0, 72), (4, 46, 1, 216), (4, 139, 2, 535), (4, 182, 3, 622), (5, 3, 0, 98), (6, 3, 0, 78), (6, 21, 1, 353), (8, 1, 0, 777)]
def othN : Nat → MethodName := fun k => match k with
  | 0 => objectInit
  | 1 => arraycopyName
  | 2 => Lib.Math.min.name
  | 3 => Lib.Math.max.name
  | 4 => yJ0_length_8abf5
  | _ => yJ0_charAt_5068e
def othR (c i : Nat) : Option Nat := (othL.find? (fun e => e.1 == c && e.2.1 == i)).map (fun e => e.2.2.1)
theorem othBs : othL.all (fun e => decide (lw_tbl[e.2.2.2]? = some (Cond.methodLink (RXs e.1) e.2.1 (othN e.2.2.1)))) = true := by decide +kernel
theorem othOK {c i k : Nat} (h : othR c i = some k) : Cond.methodLink (RXs c) i (othN k) ∈ UW := by
  unfold othR at h
  cases hf : othL.find? (fun e => e.1 == c && e.2.1 == i) with
  | none => rw [hf] at h; cases h
  | some e =>
    rw [hf] at h
    have h1 := List.find?_some hf
    have h2 := List.all_eq_true.mp othBs e (List.mem_of_find?_eq_some hf)
    obtain ⟨a, b, d, f⟩ := e
    simp only [Option.map_some, Option.some.injEq] at h
    simp only [Bool.and_eq_true, beq_iff_eq] at h1
    obtain ⟨rfl, rfl⟩ := h1
    subst h
    exact uw f (of_decide_eq_true h2) rfl
theorem or_a : othR 7 3 = some 0 ∧ othR 0 3 = some 0 ∧ othR 1 3 = some 0 ∧ othR 2 3 = some 0 ∧ othR 2 128 = some 4 ∧ othR 2 132 = some 5 ∧ othR 3 3 = some 0 ∧ othR 3 24 = some 1 ∧ othR 4 3 = some 0 ∧ othR 4 46 = some 1 ∧ othR 4 139 = some 2 ∧ othR 4 182 = some 3 ∧ othR 5 3 = some 0 ∧ othR 6 3 = some 0 ∧ othR 6 21 = some 1 ∧ othR 8 1 = some 0 := ⟨rfl, rfl, rfl, rfl, rfl, rfl, rfl, rfl, rfl, rfl, rfl, rfl, rfl, rfl, rfl, rfl⟩
theorem or_n : othR 0 17 = none ∧ othR 0 22 = none ∧ othR 0 25 = none ∧ othR 1 58 = none ∧ othR 1 62 = none ∧ othR 1 66 = none ∧ othR 2 19 = none ∧ othR 2 33 = none ∧ othR 2 51 = none ∧ othR 2 55 = none ∧ othR 2 59 = none ∧ othR 2 65 = none ∧ othR 2 71 = none ∧ othR 2 77 = none ∧ othR 2 80 = none ∧ othR 2 83 = none ∧ othR 2 86 = none ∧ othR 2 90 = none ∧ othR 2 93 = none ∧ othR 2 105 = none ∧ othR 2 109 = none ∧ othR 3 37 = none ∧ othR 3 41 = none ∧ othR 4 11 = none ∧ othR 4 20 = none ∧ othR 4 27 = none ∧ othR 4 52 = none ∧ othR 4 56 = none ∧ othR 4 59 = none ∧ othR 4 71 = none ∧ othR 4 75 = none ∧ othR 4 79 = none ∧ othR 4 83 = none ∧ othR 4 87 = none ∧ othR 4 91 = none ∧ othR 4 95 = none ∧ othR 4 101 = none ∧ othR 4 105 = none ∧ othR 4 117 = none ∧ othR 4 121 = none ∧ othR 4 124 = none ∧ othR 4 133 = none ∧ othR 4 136 = none ∧ othR 4 144 = none ∧ othR 4 147 = none ∧ othR 4 156 = none ∧ othR 4 162 = none ∧ othR 4 165 = none ∧ othR 4 168 = none ∧ othR 4 172 = none ∧ othR 4 175 = none ∧ othR 4 178 = none ∧ othR 5 21 = none ∧ othR 5 28 = none ∧ othR 5 42 = none ∧ othR 5 46 = none ∧ othR 5 50 = none ∧ othR 6 27 = none ∧ othR 6 31 = none ∧ othR 7 11 = none ∧ othR 7 21 = none ∧ othR 7 28 = none ∧ othR 7 35 = none ∧ othR 7 40 = none ∧ othR 7 44 = none ∧ othR 7 58 = none ∧ othR 7 62 = none ∧ othR 7 65 = none ∧ othR 7 75 = none ∧ othR 7 95 = none ∧ othR 7 99 = none ∧ othR 7 103 = none ∧ othR 7 114 = none ∧ othR 7 120 = none ∧ othR 7 124 = none ∧ othR 7 132 = none ∧ othR 7 139 = none ∧ othR 7 146 = none ∧ othR 7 155 = none ∧ othR 7 158 = none ∧ othR 7 168 = none ∧ othR 7 172 = none ∧ othR 7 175 = none ∧ othR 7 181 = none ∧ othR 7 205 = none ∧ othR 7 217 = none ∧ othR 7 220 = none ∧ othR 7 223 = none ∧ othR 7 227 = none ∧ othR 7 230 = none ∧ othR 7 246 = none ∧ othR 8 32 = none ∧ othR 8 36 = none ∧ othR 8 40 = none ∧ othR 8 43 = none ∧ othR 8 47 = none ∧ othR 8 50 = none ∧ othR 8 54 = none ∧ othR 8 57 = none ∧ othR 8 60 = none ∧ othR 8 64 = none ∧ othR 8 67 = none ∧ othR 8 70 = none ∧ othR 8 73 = none ∧ othR 8 76 = none ∧ othR 8 80 = none ∧ othR 8 84 = none ∧ othR 8 87 = none ∧ othR 8 90 = none ∧ othR 8 94 = none ∧ othR 8 97 = none ∧ othR 8 100 = none ∧ othR 8 103 = none ∧ othR 8 106 = none ∧ othR 8 109 = none ∧ othR 8 112 = none ∧ othR 8 115 = none ∧ othR 8 118 = none ∧ othR 8 121 = none ∧ othR 8 124 = none ∧ othR 8 127 = none ∧ othR 8 131 = none ∧ othR 8 134 = none ∧ othR 8 138 = none ∧ othR 8 141 = none ∧ othR 8 144 = none ∧ othR 8 147 = none ∧ othR 8 151 = none ∧ othR 8 154 = none ∧ othR 8 157 = none ∧ othR 8 160 = none ∧ othR 8 163 = none ∧ othR 8 172 = none ∧ othR 8 175 = none ∧ othR 8 198 = none ∧ othR 8 201 = none ∧ othR 8 204 = none ∧ othR 8 207 = none ∧ othR 8 210 = none ∧ othR 8 214 = none ∧ othR 8 220 = none ∧ othR 8 229 = none ∧ othR 9 9 = none ∧ othR 9 12 = none ∧ othR 9 13 = none ∧ othR 9 17 = none ∧ othR 9 18 = none ∧ othR 9 22 = none ∧ othR 9 23 = none ∧ othR 9 26 = none ∧ othR 9 27 = none ∧ othR 9 31 = none ∧ othR 9 32 = none ∧ othR 9 36 = none ∧ othR 9 37 = none ∧ othR 9 40 = none ∧ othR 9 41 = none ∧ othR 9 45 = none ∧ othR 9 46 = none ∧ othR 9 49 = none ∧ othR 9 50 = none ∧ othR 9 53 = none ∧ othR 9 54 = none ∧ othR 9 57 = none ∧ othR 9 58 = none ∧ othR 9 61 = none ∧ othR 9 62 = none ∧ othR 9 65 = none ∧ othR 9 66 = none ∧ othR 9 69 = none ∧ othR 9 70 = none ∧ othR 9 73 = none ∧ othR 9 74 = none ∧ othR 9 77 = none ∧ othR 9 78 = none ∧ othR 9 81 = none ∧ othR 9 82 = none ∧ othR 9 85 = none ∧ othR 9 86 = none ∧ othR 9 89 = none ∧ othR 9 90 = none ∧ othR 9 93 = none ∧ othR 9 94 = none ∧ othR 9 97 = none ∧ othR 9 98 = none ∧ othR 9 101 = none ∧ othR 9 102 = none ∧ othR 9 105 = none ∧ othR 9 106 = none ∧ othR 9 109 = none ∧ othR 9 110 = none ∧ othR 9 113 = none ∧ othR 9 114 = none ∧ othR 9 117 = none := ⟨rfl, rfl, rfl, rfl, rfl, rfl, rfl, rfl, rfl, rfl, rfl, rfl, rfl, rfl, rfl, rfl, rfl, rfl, rfl, rfl, rfl, rfl, rfl, rfl, rfl, rfl, rfl, rfl, rfl, rfl, rfl, rfl, rfl, rfl, rfl, rfl, rfl, rfl, rfl, rfl, rfl, rfl, rfl, rfl, rfl, rfl, rfl, rfl, rfl, rfl, rfl, rfl, rfl, rfl, rfl, rfl, rfl, rfl, rfl, rfl, rfl, rfl, rfl, rfl, rfl, rfl, rfl, rfl, rfl, rfl, rfl, rfl, rfl, rfl, rfl, rfl, rfl, rfl, rfl, rfl, rfl, rfl, rfl, rfl, rfl, rfl, rfl, rfl, rfl, rfl, rfl, rfl, rfl, rfl, rfl, rfl, rfl, rfl, rfl, rfl, rfl, rfl, rfl, rfl, rfl, rfl, rfl, rfl, rfl, rfl, rfl, rfl, rfl, rfl, rfl, rfl, rfl, rfl, rfl, rfl, rfl, rfl, rfl, rfl, rfl, rfl, rfl, rfl, rfl, rfl, rfl, rfl, rfl, rfl, rfl, rfl, rfl, rfl, rfl, rfl, rfl, rfl, rfl, rfl, rfl, rfl, rfl, rfl, rfl, rfl, rfl, rfl, rfl, rfl, rfl, rfl, rfl, rfl, rfl, rfl, rfl, rfl, rfl, rfl, rfl, rfl, rfl, rfl, rfl, rfl, rfl, rfl, rfl, rfl, rfl, rfl, rfl, rfl, rfl, rfl, rfl, rfl, rfl, rfl, rfl, rfl, rfl, rfl, rfl, rfl, rfl, rfl, rfl, rfl⟩
theorem mr_n : mthR 7 3 = none ∧ mthR 0 3 = none ∧ mthR 1 3 = none ∧ mthR 2 3 = none ∧ mthR 2 128 = none ∧ mthR 2 132 = none ∧ mthR 3 3 = none ∧ mthR 3 24 = none ∧ mthR 4 3 = none ∧ mthR 4 46 = none ∧ mthR 4 139 = none ∧ mthR 4 182 = none ∧ mthR 5 3 = none ∧ mthR 6 3 = none ∧ mthR 6 21 = none ∧ mthR 8 1 = none := ⟨rfl, rfl, rfl, rfl, rfl, rfl, rfl, rfl, rfl, rfl, rfl, rfl, rfl, rfl, rfl, rfl⟩
theorem uoO : Cond.instanceMethod objectInit ∈ UW := uw 65 (by decide +kernel) rfl
theorem uoC : Cond.code objectInit ⟨#[0xb1]⟩ 1 none ∈ UW := uw 66 (by decide +kernel) rfl
theorem uaN : Cond.native arraycopyName ∈ UW := uw 218 (by decide +kernel) rfl
theorem uaS : Cond.static arraycopyName ∈ UW := uw 217 (by decide +kernel) rfl
theorem uaI : Cond.initialized "java/lang/System" ∈ UW := uw 50 (by decide +kernel) rfl
theorem umminS : Cond.static Lib.Math.min.name ∈ UW := uw 536 (by decide +kernel) rfl
theorem umminC : Cond.code Lib.Math.min.name Lib.Math.min.code 2 (some .int) ∈ UW := uw 537 (by decide +kernel) rfl
theorem ummaxS : Cond.static Lib.Math.max.name ∈ UW := uw 623 (by decide +kernel) rfl
theorem ummaxC : Cond.code Lib.Math.max.name Lib.Math.max.code 2 (some .int) ∈ UW := uw 624 (by decide +kernel) rfl
theorem umI : Cond.initialized "java/lang/Math" ∈ UW := uw 54 (by decide +kernel) rfl
theorem uLeast : Cond.fieldLink RX7 86 RX7 "LEAST_SETTING" "[I" ∈ UW := uw 399 (by decide +kernel) rfl
theorem uGreat : Cond.fieldLink RX7 89 RX7 "GREATEST_SETTING" "[I" ∈ UW := uw 401 (by decide +kernel) rfl
def clsL : List (Nat × Nat × Nat × Nat) := [(9, 7, 7, 59), (7, 9, 4, 67), (4, 9, 6, 73), (4, 18, 5, 93), (5, 9, 1, 99), (4, 25, 3, 183), (7, 19, 0, 258), (0, 9, 4, 264), (7, 26, 2, 275), (7, 33, 1, 306), (9, 10, 8, 772)]
def clsR (c i : Nat) : Option Nat := (clsL.find? (fun e => e.1 == c && e.2.1 == i)).map (fun e => e.2.2.1)
theorem clsBs : clsL.all (fun e => decide (e.2.2.1 < 9) && decide (lw_tbl[e.2.2.2]? = some (Cond.classLink (RXs e.1) e.2.1 (RXs e.2.2.1)))) = true := by decide +kernel
theorem clsOK {c i k : Nat} (h : clsR c i = some k) : k < 9 ∧ Cond.classLink (RXs c) i (RXs k) ∈ UW := by
  unfold clsR at h
  cases hf : clsL.find? (fun e => e.1 == c && e.2.1 == i) with
  | none => rw [hf] at h; cases h
  | some e =>
    rw [hf] at h
    have h1 := List.find?_some hf
    have h2 := List.all_eq_true.mp clsBs e (List.mem_of_find?_eq_some hf)
    obtain ⟨a, b, d, f⟩ := e
    simp only [Option.map_some, Option.some.injEq] at h
    simp only [Bool.and_eq_true, beq_iff_eq] at h1
    obtain ⟨rfl, rfl⟩ := h1
    subst h
    simp only [Bool.and_eq_true, decide_eq_true_eq] at h2
    exact ⟨h2.1, uw f h2.2 rfl⟩
theorem cr_a : clsR 9 7 = some 7 ∧ clsR 7 9 = some 4 ∧ clsR 4 9 = some 6 ∧ clsR 4 18 = some 5 ∧ clsR 5 9 = some 1 ∧ clsR 4 25 = some 3 ∧ clsR 7 19 = some 0 ∧ clsR 0 9 = some 4 ∧ clsR 7 26 = some 2 ∧ clsR 7 33 = some 1 ∧ clsR 9 10 = some 8 := by decide +kernel
theorem uac_int : Cond.arrayClass .int ∈ UW := uw 92 (by decide +kernel) rfl
theorem uac_char : Cond.arrayClass .char ∈ UW := uw 305 (by decide +kernel) rfl
def cnLt : List (Nat × Nat × Int64 × Nat) := [(8, 178, 1651471464, 1099), (8, 180, 113668262487410, 1100), (8, 182, 126943688158309, 1101), (8, 184, 65, 1102), (8, 186, 119183001281906, 1103), (8, 188, 482854660462, 1104), (8, 190, 499967943531, 1105), (8, 192, 27988534211274084, 1106), (8, 194, 1718185069, 1107), (8, 196, 255, 1108)]
def cnIt : List (Nat × Nat × Int32 × Nat) := [(7, 167, 1000000, 502), (8, 150, 1000000, 971)]
def cnIR (c i : Nat) : Option Int32 := (cnIt.find? (fun e => e.1 == c && e.2.1 == i)).map (fun e => e.2.2.1)
theorem cnIBs : cnIt.all (fun e => decide (lw_tbl[e.2.2.2]? = some (Cond.constant (RXs e.1) e.2.1 e.2.2.1))) = true := by decide +kernel
theorem cnIOK {c i : Nat} {k : Int32} (h : cnIR c i = some k) : Cond.constant (RXs c) i k ∈ UW := by
  unfold cnIR at h
  cases hf : cnIt.find? (fun e => e.1 == c && e.2.1 == i) with
  | none => rw [hf] at h; cases h
  | some e =>
    rw [hf] at h
    have h1 := List.find?_some hf
    have h2 := List.all_eq_true.mp cnIBs e (List.mem_of_find?_eq_some hf)
    obtain ⟨a, b, d, f⟩ := e
    simp only [Option.map_some, Option.some.injEq] at h
    simp only [Bool.and_eq_true, beq_iff_eq] at h1
    obtain ⟨rfl, rfl⟩ := h1
    subst h
    exact uw f (of_decide_eq_true h2) rfl
theorem cnI_a : cnIR 7 167 = some 1000000 ∧ cnIR 8 150 = some 1000000 := by decide +kernel
def cnLR (c i : Nat) : Option Int64 := (cnLt.find? (fun e => e.1 == c && e.2.1 == i)).map (fun e => e.2.2.1)
theorem cnLBs : cnLt.all (fun e => decide (lw_tbl[e.2.2.2]? = some (Cond.constantLong (RXs e.1) e.2.1 e.2.2.1))) = true := by decide +kernel
theorem cnLOK {c i : Nat} {k : Int64} (h : cnLR c i = some k) : Cond.constantLong (RXs c) i k ∈ UW := by
  unfold cnLR at h
  cases hf : cnLt.find? (fun e => e.1 == c && e.2.1 == i) with
  | none => rw [hf] at h; cases h
  | some e =>
    rw [hf] at h
    have h1 := List.find?_some hf
    have h2 := List.all_eq_true.mp cnLBs e (List.mem_of_find?_eq_some hf)
    obtain ⟨a, b, d, f⟩ := e
    simp only [Option.map_some, Option.some.injEq] at h
    simp only [Bool.and_eq_true, beq_iff_eq] at h1
    obtain ⟨rfl, rfl⟩ := h1
    subst h
    exact uw f (of_decide_eq_true h2) rfl
theorem cnL_a : cnLR 8 178 = some 1651471464 ∧ cnLR 8 180 = some 113668262487410 ∧ cnLR 8 182 = some 126943688158309 ∧ cnLR 8 184 = some 65 ∧ cnLR 8 186 = some 119183001281906 ∧ cnLR 8 188 = some 482854660462 ∧ cnLR 8 190 = some 499967943531 ∧ cnLR 8 192 = some 27988534211274084 ∧ cnLR 8 194 = some 1718185069 ∧ cnLR 8 196 = some 255 := by decide +kernel
end
section
def dq (c : ByteArray) : List (Nat × Instr × Nat) → Prop
  | [] => True
  | e :: r => decode c e.1 = .ok (e.2.1, e.2.2) ∧ dq c r
def dqB (c : ByteArray) : List (Nat × Instr × Nat) → Bool
  | [] => true
  | e :: r => decide (decode c e.1 = .ok (e.2.1, e.2.2)) && dqB c r
theorem dq_of {c : ByteArray} : ∀ {l : List (Nat × Instr × Nat)}, dqB c l = true → dq c l
  | [], _ => trivial
  | e :: r, h => by
    simp only [dqB, Bool.and_eq_true, decide_eq_true_eq] at h
    exact ⟨h.1, dq_of h.2⟩
set_option maxRecDepth 100000 in
theorem D_X0_init : decode cX0_init 0 = .ok (.aload_n 0, 1) ∧ decode cX0_init 1 = .ok (.invokespecial 3, 3) ∧ decode cX0_init 4 = .ok (.aload_n 0, 1) ∧ decode cX0_init 5 = .ok (.iconst 4, 1) ∧ decode cX0_init 6 = .ok (.anewarray 9, 3) ∧ decode cX0_init 9 = .ok (.putfield 11, 3) ∧ decode cX0_init 12 = .ok (.iconst 0, 1) ∧ decode cX0_init 13 = .ok (.istore_n 1, 1) ∧ decode cX0_init 14 = .ok (.iload_n 1, 1) ∧ decode cX0_init 15 = .ok (.iconst 4, 1) ∧ decode cX0_init 16 = .ok (.if_icmp .ge 22, 3) ∧ decode cX0_init 19 = .ok (.aload_n 0, 1) ∧ decode cX0_init 20 = .ok (.getfield 11, 3) ∧ decode cX0_init 23 = .ok (.iload_n 1, 1) ∧ decode cX0_init 24 = .ok (.new 9, 3) ∧ decode cX0_init 27 = .ok (.dup, 1) ∧ decode cX0_init 28 = .ok (.invokespecial 17, 3) ∧ decode cX0_init 31 = .ok (.aastore, 1) ∧ decode cX0_init 32 = .ok (.iinc 1 1, 3) ∧ decode cX0_init 35 = .ok (.goto (-21), 3) ∧ decode cX0_init 38 = .ok (.return_, 1) ∧ True := dq_of (l := (0, .aload_n 0, 1) :: (1, .invokespecial 3, 3) :: (4, .aload_n 0, 1) :: (5, .iconst 4, 1) :: (6, .anewarray 9, 3) :: (9, .putfield 11, 3) :: (12, .iconst 0, 1) :: (13, .istore_n 1, 1) :: (14, .iload_n 1, 1) :: (15, .iconst 4, 1) :: (16, .if_icmp .ge 22, 3) :: (19, .aload_n 0, 1) :: (20, .getfield 11, 3) :: (23, .iload_n 1, 1) :: (24, .new 9, 3) :: (27, .dup, 1) :: (28, .invokespecial 17, 3) :: (31, .aastore, 1) :: (32, .iinc 1 1, 3) :: (35, .goto (-21), 3) :: (38, .return_, 1) :: []) (by decide +kernel)
set_option maxRecDepth 100000 in
theorem D_X0_keep : decode cX0_keep 0 = .ok (.aload_n 0, 1) ∧ decode cX0_keep 1 = .ok (.getfield 18, 3) ∧ decode cX0_keep 4 = .ok (.iconst 4, 1) ∧ decode cX0_keep 5 = .ok (.if_icmp .lt 7, 3) ∧ decode cX0_keep 8 = .ok (.aload_n 0, 1) ∧ decode cX0_keep 9 = .ok (.invokevirtual 22, 3) ∧ decode cX0_keep 12 = .ok (.aload_n 0, 1) ∧ decode cX0_keep 13 = .ok (.getfield 11, 3) ∧ decode cX0_keep 16 = .ok (.aload_n 0, 1) ∧ decode cX0_keep 17 = .ok (.getfield 18, 3) ∧ decode cX0_keep 20 = .ok (.aaload, 1) ∧ decode cX0_keep 21 = .ok (.aload_n 1, 1) ∧ decode cX0_keep 22 = .ok (.invokevirtual 25, 3) ∧ decode cX0_keep 25 = .ok (.aload_n 0, 1) ∧ decode cX0_keep 26 = .ok (.dup, 1) ∧ decode cX0_keep 27 = .ok (.getfield 18, 3) ∧ decode cX0_keep 30 = .ok (.iconst 1, 1) ∧ decode cX0_keep 31 = .ok (.iadd, 1) ∧ decode cX0_keep 32 = .ok (.putfield 18, 3) ∧ decode cX0_keep 35 = .ok (.return_, 1) ∧ True := dq_of (l := (0, .aload_n 0, 1) :: (1, .getfield 18, 3) :: (4, .iconst 4, 1) :: (5, .if_icmp .lt 7, 3) :: (8, .aload_n 0, 1) :: (9, .invokevirtual 22, 3) :: (12, .aload_n 0, 1) :: (13, .getfield 11, 3) :: (16, .aload_n 0, 1) :: (17, .getfield 18, 3) :: (20, .aaload, 1) :: (21, .aload_n 1, 1) :: (22, .invokevirtual 25, 3) :: (25, .aload_n 0, 1) :: (26, .dup, 1) :: (27, .getfield 18, 3) :: (30, .iconst 1, 1) :: (31, .iadd, 1) :: (32, .putfield 18, 3) :: (35, .return_, 1) :: []) (by decide +kernel)
set_option maxRecDepth 100000 in
theorem D_X0_dropOldest : decode cX0_dropOldest 0 = .ok (.aload_n 0, 1) ∧ decode cX0_dropOldest 1 = .ok (.getfield 11, 3) ∧ decode cX0_dropOldest 4 = .ok (.iconst 0, 1) ∧ decode cX0_dropOldest 5 = .ok (.aaload, 1) ∧ decode cX0_dropOldest 6 = .ok (.astore_n 1, 1) ∧ decode cX0_dropOldest 7 = .ok (.iconst 0, 1) ∧ decode cX0_dropOldest 8 = .ok (.istore_n 2, 1) ∧ decode cX0_dropOldest 9 = .ok (.iload_n 2, 1) ∧ decode cX0_dropOldest 10 = .ok (.iconst 1, 1) ∧ decode cX0_dropOldest 11 = .ok (.iadd, 1) ∧ decode cX0_dropOldest 12 = .ok (.iconst 4, 1) ∧ decode cX0_dropOldest 13 = .ok (.if_icmp .ge 23, 3) ∧ decode cX0_dropOldest 16 = .ok (.aload_n 0, 1) ∧ decode cX0_dropOldest 17 = .ok (.getfield 11, 3) ∧ decode cX0_dropOldest 20 = .ok (.iload_n 2, 1) ∧ decode cX0_dropOldest 21 = .ok (.aload_n 0, 1) ∧ decode cX0_dropOldest 22 = .ok (.getfield 11, 3) ∧ decode cX0_dropOldest 25 = .ok (.iload_n 2, 1) ∧ decode cX0_dropOldest 26 = .ok (.iconst 1, 1) ∧ decode cX0_dropOldest 27 = .ok (.iadd, 1) ∧ decode cX0_dropOldest 28 = .ok (.aaload, 1) ∧ decode cX0_dropOldest 29 = .ok (.aastore, 1) ∧ decode cX0_dropOldest 30 = .ok (.iinc 2 1, 3) ∧ decode cX0_dropOldest 33 = .ok (.goto (-24), 3) ∧ decode cX0_dropOldest 36 = .ok (.aload_n 0, 1) ∧ decode cX0_dropOldest 37 = .ok (.getfield 11, 3) ∧ decode cX0_dropOldest 40 = .ok (.iconst 3, 1) ∧ decode cX0_dropOldest 41 = .ok (.aload_n 1, 1) ∧ decode cX0_dropOldest 42 = .ok (.aastore, 1) ∧ decode cX0_dropOldest 43 = .ok (.aload_n 0, 1) ∧ decode cX0_dropOldest 44 = .ok (.iconst 3, 1) ∧ decode cX0_dropOldest 45 = .ok (.putfield 18, 3) ∧ decode cX0_dropOldest 48 = .ok (.return_, 1) ∧ True := dq_of (l := (0, .aload_n 0, 1) :: (1, .getfield 11, 3) :: (4, .iconst 0, 1) :: (5, .aaload, 1) :: (6, .astore_n 1, 1) :: (7, .iconst 0, 1) :: (8, .istore_n 2, 1) :: (9, .iload_n 2, 1) :: (10, .iconst 1, 1) :: (11, .iadd, 1) :: (12, .iconst 4, 1) :: (13, .if_icmp .ge 23, 3) :: (16, .aload_n 0, 1) :: (17, .getfield 11, 3) :: (20, .iload_n 2, 1) :: (21, .aload_n 0, 1) :: (22, .getfield 11, 3) :: (25, .iload_n 2, 1) :: (26, .iconst 1, 1) :: (27, .iadd, 1) :: (28, .aaload, 1) :: (29, .aastore, 1) :: (30, .iinc 2 1, 3) :: (33, .goto (-24), 3) :: (36, .aload_n 0, 1) :: (37, .getfield 11, 3) :: (40, .iconst 3, 1) :: (41, .aload_n 1, 1) :: (42, .aastore, 1) :: (43, .aload_n 0, 1) :: (44, .iconst 3, 1) :: (45, .putfield 18, 3) :: (48, .return_, 1) :: []) (by decide +kernel)
set_option maxRecDepth 100000 in
theorem D_X0_restore : decode cX0_restore 0 = .ok (.aload_n 0, 1) ∧ decode cX0_restore 1 = .ok (.getfield 18, 3) ∧ decode cX0_restore 4 = .ok (.iconst 1, 1) ∧ decode cX0_restore 5 = .ok (.if_icmp .lt 11, 3) ∧ decode cX0_restore 8 = .ok (.aload_n 0, 1) ∧ decode cX0_restore 9 = .ok (.getfield 18, 3) ∧ decode cX0_restore 12 = .ok (.iconst 4, 1) ∧ decode cX0_restore 13 = .ok (.if_icmp .le 5, 3) ∧ decode cX0_restore 16 = .ok (.iconst 0, 1) ∧ decode cX0_restore 17 = .ok (.ireturn, 1) ∧ decode cX0_restore 18 = .ok (.aload_n 0, 1) ∧ decode cX0_restore 19 = .ok (.dup, 1) ∧ decode cX0_restore 20 = .ok (.getfield 18, 3) ∧ decode cX0_restore 23 = .ok (.iconst 1, 1) ∧ decode cX0_restore 24 = .ok (.isub, 1) ∧ decode cX0_restore 25 = .ok (.putfield 18, 3) ∧ decode cX0_restore 28 = .ok (.aload_n 1, 1) ∧ decode cX0_restore 29 = .ok (.aload_n 0, 1) ∧ decode cX0_restore 30 = .ok (.getfield 11, 3) ∧ decode cX0_restore 33 = .ok (.aload_n 0, 1) ∧ decode cX0_restore 34 = .ok (.getfield 18, 3) ∧ decode cX0_restore 37 = .ok (.aaload, 1) ∧ decode cX0_restore 38 = .ok (.invokevirtual 25, 3) ∧ decode cX0_restore 41 = .ok (.iconst 1, 1) ∧ decode cX0_restore 42 = .ok (.ireturn, 1) ∧ True := dq_of (l := (0, .aload_n 0, 1) :: (1, .getfield 18, 3) :: (4, .iconst 1, 1) :: (5, .if_icmp .lt 11, 3) :: (8, .aload_n 0, 1) :: (9, .getfield 18, 3) :: (12, .iconst 4, 1) :: (13, .if_icmp .le 5, 3) :: (16, .iconst 0, 1) :: (17, .ireturn, 1) :: (18, .aload_n 0, 1) :: (19, .dup, 1) :: (20, .getfield 18, 3) :: (23, .iconst 1, 1) :: (24, .isub, 1) :: (25, .putfield 18, 3) :: (28, .aload_n 1, 1) :: (29, .aload_n 0, 1) :: (30, .getfield 11, 3) :: (33, .aload_n 0, 1) :: (34, .getfield 18, 3) :: (37, .aaload, 1) :: (38, .invokevirtual 25, 3) :: (41, .iconst 1, 1) :: (42, .ireturn, 1) :: []) (by decide +kernel)
set_option maxRecDepth 100000 in
theorem D_X1_init : decode cX1_init 0 = .ok (.aload_n 0, 1) ∧ decode cX1_init 1 = .ok (.invokespecial 3, 3) ∧ decode cX1_init 4 = .ok (.return_, 1) ∧ True := dq_of (l := (0, .aload_n 0, 1) :: (1, .invokespecial 3, 3) :: (4, .return_, 1) :: []) (by decide +kernel)
set_option maxRecDepth 100000 in
theorem D_X1_describe : decode cX1_describe 0 = .ok (.aload_n 0, 1) ∧ decode cX1_describe 1 = .ok (.iload_n 1, 1) ∧ decode cX1_describe 2 = .ok (.putfield 9, 3) ∧ decode cX1_describe 5 = .ok (.aload_n 0, 1) ∧ decode cX1_describe 6 = .ok (.iload_n 2, 1) ∧ decode cX1_describe 7 = .ok (.putfield 15, 3) ∧ decode cX1_describe 10 = .ok (.aload_n 0, 1) ∧ decode cX1_describe 11 = .ok (.iload_n 3, 1) ∧ decode cX1_describe 12 = .ok (.putfield 18, 3) ∧ decode cX1_describe 15 = .ok (.aload_n 0, 1) ∧ decode cX1_describe 16 = .ok (.iload 4, 2) ∧ decode cX1_describe 18 = .ok (.putfield 21, 3) ∧ decode cX1_describe 21 = .ok (.aload_n 0, 1) ∧ decode cX1_describe 22 = .ok (.iload 5, 2) ∧ decode cX1_describe 24 = .ok (.putfield 24, 3) ∧ decode cX1_describe 27 = .ok (.aload_n 0, 1) ∧ decode cX1_describe 28 = .ok (.aload_n 0, 1) ∧ decode cX1_describe 29 = .ok (.getfield 24, 3) ∧ decode cX1_describe 32 = .ok (.iconst 1, 1) ∧ decode cX1_describe 33 = .ok (.iand, 1) ∧ decode cX1_describe 34 = .ok (.ifCond .eq 7, 3) ∧ decode cX1_describe 37 = .ok (.iconst 1, 1) ∧ decode cX1_describe 38 = .ok (.goto 4, 3) ∧ decode cX1_describe 41 = .ok (.iconst 0, 1) ∧ decode cX1_describe 42 = .ok (.putfield 27, 3) ∧ decode cX1_describe 45 = .ok (.aload_n 0, 1) ∧ decode cX1_describe 46 = .ok (.aload_n 0, 1) ∧ decode cX1_describe 47 = .ok (.getfield 24, 3) ∧ decode cX1_describe 50 = .ok (.iconst 2, 1) ∧ decode cX1_describe 51 = .ok (.iand, 1) ∧ decode cX1_describe 52 = .ok (.ifCond .eq 7, 3) ∧ decode cX1_describe 55 = .ok (.iconst 1, 1) ∧ decode cX1_describe 56 = .ok (.goto 4, 3) ∧ decode cX1_describe 59 = .ok (.iconst 0, 1) ∧ decode cX1_describe 60 = .ok (.putfield 31, 3) ∧ decode cX1_describe 63 = .ok (.aload_n 0, 1) ∧ decode cX1_describe 64 = .ok (.aload_n 0, 1) ∧ decode cX1_describe 65 = .ok (.getfield 24, 3) ∧ decode cX1_describe 68 = .ok (.bipush 8, 2) ∧ decode cX1_describe 70 = .ok (.iand, 1) ∧ decode cX1_describe 71 = .ok (.ifCond .eq 7, 3) ∧ decode cX1_describe 74 = .ok (.iconst 2, 1) ∧ decode cX1_describe 75 = .ok (.goto 17, 3) ∧ decode cX1_describe 78 = .ok (.aload_n 0, 1) ∧ decode cX1_describe 79 = .ok (.getfield 24, 3) ∧ decode cX1_describe 82 = .ok (.iconst 4, 1) ∧ decode cX1_describe 83 = .ok (.iand, 1) ∧ decode cX1_describe 84 = .ok (.ifCond .eq 7, 3) ∧ decode cX1_describe 87 = .ok (.iconst 1, 1) ∧ decode cX1_describe 88 = .ok (.goto 4, 3) ∧ decode cX1_describe 91 = .ok (.iconst 0, 1) ∧ decode cX1_describe 92 = .ok (.putfield 34, 3) ∧ decode cX1_describe 95 = .ok (.aload_n 0, 1) ∧ decode cX1_describe 96 = .ok (.aload_n 0, 1) ∧ decode cX1_describe 97 = .ok (.getfield 27, 3) ∧ decode cX1_describe 100 = .ok (.ifCond .eq 14, 3) ∧ decode cX1_describe 103 = .ok (.aload_n 0, 1) ∧ decode cX1_describe 104 = .ok (.getfield 9, 3) ∧ decode cX1_describe 107 = .ok (.iconst 1, 1) ∧ decode cX1_describe 108 = .ok (.iadd, 1) ∧ decode cX1_describe 109 = .ok (.iconst 2, 1) ∧ decode cX1_describe 110 = .ok (.idiv, 1) ∧ decode cX1_describe 111 = .ok (.goto 7, 3) ∧ decode cX1_describe 114 = .ok (.aload_n 0, 1) ∧ decode cX1_describe 115 = .ok (.getfield 9, 3) ∧ decode cX1_describe 118 = .ok (.putfield 37, 3) ∧ decode cX1_describe 121 = .ok (.aload_n 0, 1) ∧ decode cX1_describe 122 = .ok (.aload_n 0, 1) ∧ decode cX1_describe 123 = .ok (.getfield 37, 3) ∧ decode cX1_describe 126 = .ok (.aload_n 0, 1) ∧ decode cX1_describe 127 = .ok (.getfield 15, 3) ∧ decode cX1_describe 130 = .ok (.imul, 1) ∧ decode cX1_describe 131 = .ok (.putfield 40, 3) ∧ decode cX1_describe 134 = .ok (.aload_n 0, 1) ∧ decode cX1_describe 135 = .ok (.iconst 0, 1) ∧ decode cX1_describe 136 = .ok (.putfield 43, 3) ∧ decode cX1_describe 139 = .ok (.aload_n 0, 1) ∧ decode cX1_describe 140 = .ok (.iconst 0, 1) ∧ decode cX1_describe 141 = .ok (.putfield 46, 3) ∧ decode cX1_describe 144 = .ok (.aload_n 0, 1) ∧ decode cX1_describe 145 = .ok (.iconst 0, 1) ∧ decode cX1_describe 146 = .ok (.putfield 49, 3) ∧ decode cX1_describe 149 = .ok (.aload_n 0, 1) ∧ decode cX1_describe 150 = .ok (.iconst 0, 1) ∧ decode cX1_describe 151 = .ok (.putfield 52, 3) ∧ decode cX1_describe 154 = .ok (.return_, 1) ∧ True := dq_of (l := (0, .aload_n 0, 1) :: (1, .iload_n 1, 1) :: (2, .putfield 9, 3) :: (5, .aload_n 0, 1) :: (6, .iload_n 2, 1) :: (7, .putfield 15, 3) :: (10, .aload_n 0, 1) :: (11, .iload_n 3, 1) :: (12, .putfield 18, 3) :: (15, .aload_n 0, 1) :: (16, .iload 4, 2) :: (18, .putfield 21, 3) :: (21, .aload_n 0, 1) :: (22, .iload 5, 2) :: (24, .putfield 24, 3) :: (27, .aload_n 0, 1) :: (28, .aload_n 0, 1) :: (29, .getfield 24, 3) :: (32, .iconst 1, 1) :: (33, .iand, 1) :: (34, .ifCond .eq 7, 3) :: (37, .iconst 1, 1) :: (38, .goto 4, 3) :: (41, .iconst 0, 1) :: (42, .putfield 27, 3) :: (45, .aload_n 0, 1) :: (46, .aload_n 0, 1) :: (47, .getfield 24, 3) :: (50, .iconst 2, 1) :: (51, .iand, 1) :: (52, .ifCond .eq 7, 3) :: (55, .iconst 1, 1) :: (56, .goto 4, 3) :: (59, .iconst 0, 1) :: (60, .putfield 31, 3) :: (63, .aload_n 0, 1) :: (64, .aload_n 0, 1) :: (65, .getfield 24, 3) :: (68, .bipush 8, 2) :: (70, .iand, 1) :: (71, .ifCond .eq 7, 3) :: (74, .iconst 2, 1) :: (75, .goto 17, 3) :: (78, .aload_n 0, 1) :: (79, .getfield 24, 3) :: (82, .iconst 4, 1) :: (83, .iand, 1) :: (84, .ifCond .eq 7, 3) :: (87, .iconst 1, 1) :: (88, .goto 4, 3) :: (91, .iconst 0, 1) :: (92, .putfield 34, 3) :: (95, .aload_n 0, 1) :: (96, .aload_n 0, 1) :: (97, .getfield 27, 3) :: (100, .ifCond .eq 14, 3) :: (103, .aload_n 0, 1) :: (104, .getfield 9, 3) :: (107, .iconst 1, 1) :: (108, .iadd, 1) :: (109, .iconst 2, 1) :: (110, .idiv, 1) :: (111, .goto 7, 3) :: (114, .aload_n 0, 1) :: (115, .getfield 9, 3) :: (118, .putfield 37, 3) :: (121, .aload_n 0, 1) :: (122, .aload_n 0, 1) :: (123, .getfield 37, 3) :: (126, .aload_n 0, 1) :: (127, .getfield 15, 3) :: (130, .imul, 1) :: (131, .putfield 40, 3) :: (134, .aload_n 0, 1) :: (135, .iconst 0, 1) :: (136, .putfield 43, 3) :: (139, .aload_n 0, 1) :: (140, .iconst 0, 1) :: (141, .putfield 46, 3) :: (144, .aload_n 0, 1) :: (145, .iconst 0, 1) :: (146, .putfield 49, 3) :: (149, .aload_n 0, 1) :: (150, .iconst 0, 1) :: (151, .putfield 52, 3) :: (154, .return_, 1) :: []) (by decide +kernel)
set_option maxRecDepth 100000 in
theorem D_X1_copyFrom : decode cX1_copyFrom 0 = .ok (.aload_n 0, 1) ∧ decode cX1_copyFrom 1 = .ok (.aload_n 1, 1) ∧ decode cX1_copyFrom 2 = .ok (.getfield 55, 3) ∧ decode cX1_copyFrom 5 = .ok (.putfield 55, 3) ∧ decode cX1_copyFrom 8 = .ok (.aload_n 0, 1) ∧ decode cX1_copyFrom 9 = .ok (.aload_n 1, 1) ∧ decode cX1_copyFrom 10 = .ok (.getfield 9, 3) ∧ decode cX1_copyFrom 13 = .ok (.putfield 9, 3) ∧ decode cX1_copyFrom 16 = .ok (.aload_n 0, 1) ∧ decode cX1_copyFrom 17 = .ok (.aload_n 1, 1) ∧ decode cX1_copyFrom 18 = .ok (.getfield 15, 3) ∧ decode cX1_copyFrom 21 = .ok (.putfield 15, 3) ∧ decode cX1_copyFrom 24 = .ok (.aload_n 0, 1) ∧ decode cX1_copyFrom 25 = .ok (.aload_n 1, 1) ∧ decode cX1_copyFrom 26 = .ok (.getfield 18, 3) ∧ decode cX1_copyFrom 29 = .ok (.putfield 18, 3) ∧ decode cX1_copyFrom 32 = .ok (.aload_n 0, 1) ∧ decode cX1_copyFrom 33 = .ok (.aload_n 1, 1) ∧ decode cX1_copyFrom 34 = .ok (.getfield 21, 3) ∧ decode cX1_copyFrom 37 = .ok (.putfield 21, 3) ∧ decode cX1_copyFrom 40 = .ok (.aload_n 0, 1) ∧ decode cX1_copyFrom 41 = .ok (.aload_n 1, 1) ∧ decode cX1_copyFrom 42 = .ok (.getfield 24, 3) ∧ decode cX1_copyFrom 45 = .ok (.putfield 24, 3) ∧ decode cX1_copyFrom 48 = .ok (.aload_n 0, 1) ∧ decode cX1_copyFrom 49 = .ok (.aload_n 1, 1) ∧ decode cX1_copyFrom 50 = .ok (.getfield 27, 3) ∧ decode cX1_copyFrom 53 = .ok (.putfield 27, 3) ∧ decode cX1_copyFrom 56 = .ok (.aload_n 0, 1) ∧ decode cX1_copyFrom 57 = .ok (.aload_n 1, 1) ∧ decode cX1_copyFrom 58 = .ok (.getfield 31, 3) ∧ decode cX1_copyFrom 61 = .ok (.putfield 31, 3) ∧ decode cX1_copyFrom 64 = .ok (.aload_n 0, 1) ∧ decode cX1_copyFrom 65 = .ok (.aload_n 1, 1) ∧ decode cX1_copyFrom 66 = .ok (.getfield 34, 3) ∧ decode cX1_copyFrom 69 = .ok (.putfield 34, 3) ∧ decode cX1_copyFrom 72 = .ok (.aload_n 0, 1) ∧ decode cX1_copyFrom 73 = .ok (.aload_n 1, 1) ∧ decode cX1_copyFrom 74 = .ok (.getfield 37, 3) ∧ decode cX1_copyFrom 77 = .ok (.putfield 37, 3) ∧ decode cX1_copyFrom 80 = .ok (.aload_n 0, 1) ∧ decode cX1_copyFrom 81 = .ok (.aload_n 1, 1) ∧ decode cX1_copyFrom 82 = .ok (.getfield 40, 3) ∧ decode cX1_copyFrom 85 = .ok (.putfield 40, 3) ∧ decode cX1_copyFrom 88 = .ok (.aload_n 0, 1) ∧ decode cX1_copyFrom 89 = .ok (.aload_n 1, 1) ∧ decode cX1_copyFrom 90 = .ok (.getfield 43, 3) ∧ decode cX1_copyFrom 93 = .ok (.putfield 43, 3) ∧ decode cX1_copyFrom 96 = .ok (.aload_n 0, 1) ∧ decode cX1_copyFrom 97 = .ok (.aload_n 1, 1) ∧ decode cX1_copyFrom 98 = .ok (.getfield 46, 3) ∧ decode cX1_copyFrom 101 = .ok (.putfield 46, 3) ∧ decode cX1_copyFrom 104 = .ok (.aload_n 0, 1) ∧ decode cX1_copyFrom 105 = .ok (.aload_n 1, 1) ∧ decode cX1_copyFrom 106 = .ok (.getfield 49, 3) ∧ decode cX1_copyFrom 109 = .ok (.putfield 49, 3) ∧ decode cX1_copyFrom 112 = .ok (.aload_n 0, 1) ∧ decode cX1_copyFrom 113 = .ok (.aload_n 1, 1) ∧ decode cX1_copyFrom 114 = .ok (.getfield 52, 3) ∧ decode cX1_copyFrom 117 = .ok (.putfield 52, 3) ∧ decode cX1_copyFrom 120 = .ok (.return_, 1) ∧ True := dq_of (l := (0, .aload_n 0, 1) :: (1, .aload_n 1, 1) :: (2, .getfield 55, 3) :: (5, .putfield 55, 3) :: (8, .aload_n 0, 1) :: (9, .aload_n 1, 1) :: (10, .getfield 9, 3) :: (13, .putfield 9, 3) :: (16, .aload_n 0, 1) :: (17, .aload_n 1, 1) :: (18, .getfield 15, 3) :: (21, .putfield 15, 3) :: (24, .aload_n 0, 1) :: (25, .aload_n 1, 1) :: (26, .getfield 18, 3) :: (29, .putfield 18, 3) :: (32, .aload_n 0, 1) :: (33, .aload_n 1, 1) :: (34, .getfield 21, 3) :: (37, .putfield 21, 3) :: (40, .aload_n 0, 1) :: (41, .aload_n 1, 1) :: (42, .getfield 24, 3) :: (45, .putfield 24, 3) :: (48, .aload_n 0, 1) :: (49, .aload_n 1, 1) :: (50, .getfield 27, 3) :: (53, .putfield 27, 3) :: (56, .aload_n 0, 1) :: (57, .aload_n 1, 1) :: (58, .getfield 31, 3) :: (61, .putfield 31, 3) :: (64, .aload_n 0, 1) :: (65, .aload_n 1, 1) :: (66, .getfield 34, 3) :: (69, .putfield 34, 3) :: (72, .aload_n 0, 1) :: (73, .aload_n 1, 1) :: (74, .getfield 37, 3) :: (77, .putfield 37, 3) :: (80, .aload_n 0, 1) :: (81, .aload_n 1, 1) :: (82, .getfield 40, 3) :: (85, .putfield 40, 3) :: (88, .aload_n 0, 1) :: (89, .aload_n 1, 1) :: (90, .getfield 43, 3) :: (93, .putfield 43, 3) :: (96, .aload_n 0, 1) :: (97, .aload_n 1, 1) :: (98, .getfield 46, 3) :: (101, .putfield 46, 3) :: (104, .aload_n 0, 1) :: (105, .aload_n 1, 1) :: (106, .getfield 49, 3) :: (109, .putfield 49, 3) :: (112, .aload_n 0, 1) :: (113, .aload_n 1, 1) :: (114, .getfield 52, 3) :: (117, .putfield 52, 3) :: (120, .return_, 1) :: []) (by decide +kernel)
set_option maxRecDepth 100000 in
theorem D_X1_isInRange : decode cX1_isInRange 0 = .ok (.aload_n 0, 1) ∧ decode cX1_isInRange 1 = .ok (.getfield 9, 3) ∧ decode cX1_isInRange 4 = .ok (.iconst 1, 1) ∧ decode cX1_isInRange 5 = .ok (.sipush 200, 3) ∧ decode cX1_isInRange 8 = .ok (.invokestatic 58, 3) ∧ decode cX1_isInRange 11 = .ok (.ifCond .eq 20, 3) ∧ decode cX1_isInRange 14 = .ok (.aload_n 0, 1) ∧ decode cX1_isInRange 15 = .ok (.getfield 15, 3) ∧ decode cX1_isInRange 18 = .ok (.iconst 1, 1) ∧ decode cX1_isInRange 19 = .ok (.bipush 50, 2) ∧ decode cX1_isInRange 21 = .ok (.invokestatic 58, 3) ∧ decode cX1_isInRange 24 = .ok (.ifCond .eq 7, 3) ∧ decode cX1_isInRange 27 = .ok (.iconst 1, 1) ∧ decode cX1_isInRange 28 = .ok (.goto 4, 3) ∧ decode cX1_isInRange 31 = .ok (.iconst 0, 1) ∧ decode cX1_isInRange 32 = .ok (.ireturn, 1) ∧ True := dq_of (l := (0, .aload_n 0, 1) :: (1, .getfield 9, 3) :: (4, .iconst 1, 1) :: (5, .sipush 200, 3) :: (8, .invokestatic 58, 3) :: (11, .ifCond .eq 20, 3) :: (14, .aload_n 0, 1) :: (15, .getfield 15, 3) :: (18, .iconst 1, 1) :: (19, .bipush 50, 2) :: (21, .invokestatic 58, 3) :: (24, .ifCond .eq 7, 3) :: (27, .iconst 1, 1) :: (28, .goto 4, 3) :: (31, .iconst 0, 1) :: (32, .ireturn, 1) :: []) (by decide +kernel)
set_option maxRecDepth 100000 in
theorem D_X1_isOn : decode cX1_isOn 0 = .ok (.aload_n 0, 1) ∧ decode cX1_isOn 1 = .ok (.getfield 18, 3) ∧ decode cX1_isOn 4 = .ok (.iload_n 1, 1) ∧ decode cX1_isOn 5 = .ok (.if_icmp .ne 15, 3) ∧ decode cX1_isOn 8 = .ok (.aload_n 0, 1) ∧ decode cX1_isOn 9 = .ok (.getfield 21, 3) ∧ decode cX1_isOn 12 = .ok (.iload_n 2, 1) ∧ decode cX1_isOn 13 = .ok (.if_icmp .ne 7, 3) ∧ decode cX1_isOn 16 = .ok (.iconst 1, 1) ∧ decode cX1_isOn 17 = .ok (.goto 4, 3) ∧ decode cX1_isOn 20 = .ok (.iconst 0, 1) ∧ decode cX1_isOn 21 = .ok (.ireturn, 1) ∧ True := dq_of (l := (0, .aload_n 0, 1) :: (1, .getfield 18, 3) :: (4, .iload_n 1, 1) :: (5, .if_icmp .ne 15, 3) :: (8, .aload_n 0, 1) :: (9, .getfield 21, 3) :: (12, .iload_n 2, 1) :: (13, .if_icmp .ne 7, 3) :: (16, .iconst 1, 1) :: (17, .goto 4, 3) :: (20, .iconst 0, 1) :: (21, .ireturn, 1) :: []) (by decide +kernel)
set_option maxRecDepth 100000 in
theorem D_X1_staplingRefusal : decode cX1_staplingRefusal 0 = .ok (.aload_n 0, 1) ∧ decode cX1_staplingRefusal 1 = .ok (.getfield 34, 3) ∧ decode cX1_staplingRefusal 4 = .ok (.ifCond .ne 5, 3) ∧ decode cX1_staplingRefusal 7 = .ok (.iconst 0, 1) ∧ decode cX1_staplingRefusal 8 = .ok (.ireturn, 1) ∧ decode cX1_staplingRefusal 9 = .ok (.aload_n 0, 1) ∧ decode cX1_staplingRefusal 10 = .ok (.getfield 31, 3) ∧ decode cX1_staplingRefusal 13 = .ok (.ifCond .ne 5, 3) ∧ decode cX1_staplingRefusal 16 = .ok (.iconst 1, 1) ∧ decode cX1_staplingRefusal 17 = .ok (.ireturn, 1) ∧ decode cX1_staplingRefusal 18 = .ok (.aload_n 0, 1) ∧ decode cX1_staplingRefusal 19 = .ok (.getfield 21, 3) ∧ decode cX1_staplingRefusal 22 = .ok (.iconst 3, 1) ∧ decode cX1_staplingRefusal 23 = .ok (.if_icmp .ne 5, 3) ∧ decode cX1_staplingRefusal 26 = .ok (.iconst 2, 1) ∧ decode cX1_staplingRefusal 27 = .ok (.ireturn, 1) ∧ decode cX1_staplingRefusal 28 = .ok (.aload_n 0, 1) ∧ decode cX1_staplingRefusal 29 = .ok (.getfield 37, 3) ∧ decode cX1_staplingRefusal 32 = .ok (.iconst 1, 1) ∧ decode cX1_staplingRefusal 33 = .ok (.if_icmp .ne 5, 3) ∧ decode cX1_staplingRefusal 36 = .ok (.iconst 3, 1) ∧ decode cX1_staplingRefusal 37 = .ok (.ireturn, 1) ∧ decode cX1_staplingRefusal 38 = .ok (.aload_n 0, 1) ∧ decode cX1_staplingRefusal 39 = .ok (.getfield 21, 3) ∧ decode cX1_staplingRefusal 42 = .ok (.iconst 1, 1) ∧ decode cX1_staplingRefusal 43 = .ok (.if_icmp .ne 9, 3) ∧ decode cX1_staplingRefusal 46 = .ok (.iload_n 1, 1) ∧ decode cX1_staplingRefusal 47 = .ok (.iconst 2, 1) ∧ decode cX1_staplingRefusal 48 = .ok (.idiv, 1) ∧ decode cX1_staplingRefusal 49 = .ok (.goto 4, 3) ∧ decode cX1_staplingRefusal 52 = .ok (.iload_n 1, 1) ∧ decode cX1_staplingRefusal 53 = .ok (.istore_n 2, 1) ∧ decode cX1_staplingRefusal 54 = .ok (.aload_n 0, 1) ∧ decode cX1_staplingRefusal 55 = .ok (.getfield 37, 3) ∧ decode cX1_staplingRefusal 58 = .ok (.iload_n 2, 1) ∧ decode cX1_staplingRefusal 59 = .ok (.if_icmp .le 7, 3) ∧ decode cX1_staplingRefusal 62 = .ok (.iconst 4, 1) ∧ decode cX1_staplingRefusal 63 = .ok (.goto 4, 3) ∧ decode cX1_staplingRefusal 66 = .ok (.iconst 0, 1) ∧ decode cX1_staplingRefusal 67 = .ok (.ireturn, 1) ∧ True := dq_of (l := (0, .aload_n 0, 1) :: (1, .getfield 34, 3) :: (4, .ifCond .ne 5, 3) :: (7, .iconst 0, 1) :: (8, .ireturn, 1) :: (9, .aload_n 0, 1) :: (10, .getfield 31, 3) :: (13, .ifCond .ne 5, 3) :: (16, .iconst 1, 1) :: (17, .ireturn, 1) :: (18, .aload_n 0, 1) :: (19, .getfield 21, 3) :: (22, .iconst 3, 1) :: (23, .if_icmp .ne 5, 3) :: (26, .iconst 2, 1) :: (27, .ireturn, 1) :: (28, .aload_n 0, 1) :: (29, .getfield 37, 3) :: (32, .iconst 1, 1) :: (33, .if_icmp .ne 5, 3) :: (36, .iconst 3, 1) :: (37, .ireturn, 1) :: (38, .aload_n 0, 1) :: (39, .getfield 21, 3) :: (42, .iconst 1, 1) :: (43, .if_icmp .ne 9, 3) :: (46, .iload_n 1, 1) :: (47, .iconst 2, 1) :: (48, .idiv, 1) :: (49, .goto 4, 3) :: (52, .iload_n 1, 1) :: (53, .istore_n 2, 1) :: (54, .aload_n 0, 1) :: (55, .getfield 37, 3) :: (58, .iload_n 2, 1) :: (59, .if_icmp .le 7, 3) :: (62, .iconst 4, 1) :: (63, .goto 4, 3) :: (66, .iconst 0, 1) :: (67, .ireturn, 1) :: []) (by decide +kernel)
set_option maxRecDepth 100000 in
theorem D_X1_hasSetToStaple : decode cX1_hasSetToStaple 0 = .ok (.aload_n 0, 1) ∧ decode cX1_hasSetToStaple 1 = .ok (.getfield 34, 3) ∧ decode cX1_hasSetToStaple 4 = .ok (.ifCond .le 30, 3) ∧ decode cX1_hasSetToStaple 7 = .ok (.aload_n 0, 1) ∧ decode cX1_hasSetToStaple 8 = .ok (.getfield 37, 3) ∧ decode cX1_hasSetToStaple 11 = .ok (.ifCond .le 23, 3) ∧ decode cX1_hasSetToStaple 14 = .ok (.aload_n 0, 1) ∧ decode cX1_hasSetToStaple 15 = .ok (.getfield 52, 3) ∧ decode cX1_hasSetToStaple 18 = .ok (.aload_n 0, 1) ∧ decode cX1_hasSetToStaple 19 = .ok (.getfield 49, 3) ∧ decode cX1_hasSetToStaple 22 = .ok (.aload_n 0, 1) ∧ decode cX1_hasSetToStaple 23 = .ok (.getfield 37, 3) ∧ decode cX1_hasSetToStaple 26 = .ok (.idiv, 1) ∧ decode cX1_hasSetToStaple 27 = .ok (.if_icmp .ge 7, 3) ∧ decode cX1_hasSetToStaple 30 = .ok (.iconst 1, 1) ∧ decode cX1_hasSetToStaple 31 = .ok (.goto 4, 3) ∧ decode cX1_hasSetToStaple 34 = .ok (.iconst 0, 1) ∧ decode cX1_hasSetToStaple 35 = .ok (.ireturn, 1) ∧ True := dq_of (l := (0, .aload_n 0, 1) :: (1, .getfield 34, 3) :: (4, .ifCond .le 30, 3) :: (7, .aload_n 0, 1) :: (8, .getfield 37, 3) :: (11, .ifCond .le 23, 3) :: (14, .aload_n 0, 1) :: (15, .getfield 52, 3) :: (18, .aload_n 0, 1) :: (19, .getfield 49, 3) :: (22, .aload_n 0, 1) :: (23, .getfield 37, 3) :: (26, .idiv, 1) :: (27, .if_icmp .ge 7, 3) :: (30, .iconst 1, 1) :: (31, .goto 4, 3) :: (34, .iconst 0, 1) :: (35, .ireturn, 1) :: []) (by decide +kernel)
set_option maxRecDepth 100000 in
theorem D_X1_isFinished : decode cX1_isFinished 0 = .ok (.aload_n 0, 1) ∧ decode cX1_isFinished 1 = .ok (.getfield 49, 3) ∧ decode cX1_isFinished 4 = .ok (.aload_n 0, 1) ∧ decode cX1_isFinished 5 = .ok (.getfield 40, 3) ∧ decode cX1_isFinished 8 = .ok (.if_icmp .lt 25, 3) ∧ decode cX1_isFinished 11 = .ok (.aload_n 0, 1) ∧ decode cX1_isFinished 12 = .ok (.getfield 34, 3) ∧ decode cX1_isFinished 15 = .ok (.ifCond .eq 14, 3) ∧ decode cX1_isFinished 18 = .ok (.aload_n 0, 1) ∧ decode cX1_isFinished 19 = .ok (.getfield 52, 3) ∧ decode cX1_isFinished 22 = .ok (.aload_n 0, 1) ∧ decode cX1_isFinished 23 = .ok (.getfield 15, 3) ∧ decode cX1_isFinished 26 = .ok (.if_icmp .lt 7, 3) ∧ decode cX1_isFinished 29 = .ok (.iconst 1, 1) ∧ decode cX1_isFinished 30 = .ok (.goto 4, 3) ∧ decode cX1_isFinished 33 = .ok (.iconst 0, 1) ∧ decode cX1_isFinished 34 = .ok (.ireturn, 1) ∧ True := dq_of (l := (0, .aload_n 0, 1) :: (1, .getfield 49, 3) :: (4, .aload_n 0, 1) :: (5, .getfield 40, 3) :: (8, .if_icmp .lt 25, 3) :: (11, .aload_n 0, 1) :: (12, .getfield 34, 3) :: (15, .ifCond .eq 14, 3) :: (18, .aload_n 0, 1) :: (19, .getfield 52, 3) :: (22, .aload_n 0, 1) :: (23, .getfield 15, 3) :: (26, .if_icmp .lt 7, 3) :: (29, .iconst 1, 1) :: (30, .goto 4, 3) :: (33, .iconst 0, 1) :: (34, .ireturn, 1) :: []) (by decide +kernel)
set_option maxRecDepth 100000 in
theorem D_X1_nextSheet : decode cX1_nextSheet 0 = .ok (.aload_n 0, 1) ∧ decode cX1_nextSheet 1 = .ok (.getfield 49, 3) ∧ decode cX1_nextSheet 4 = .ok (.aload_n 0, 1) ∧ decode cX1_nextSheet 5 = .ok (.getfield 40, 3) ∧ decode cX1_nextSheet 8 = .ok (.if_icmp .ge 19, 3) ∧ decode cX1_nextSheet 11 = .ok (.aload_n 0, 1) ∧ decode cX1_nextSheet 12 = .ok (.getfield 37, 3) ∧ decode cX1_nextSheet 15 = .ok (.iconst 1, 1) ∧ decode cX1_nextSheet 16 = .ok (.if_icmp .lt 11, 3) ∧ decode cX1_nextSheet 19 = .ok (.aload_n 0, 1) ∧ decode cX1_nextSheet 20 = .ok (.getfield 15, 3) ∧ decode cX1_nextSheet 23 = .ok (.iconst 1, 1) ∧ decode cX1_nextSheet 24 = .ok (.if_icmp .ge 6, 3) ∧ decode cX1_nextSheet 27 = .ok (.bipush (-4), 2) ∧ decode cX1_nextSheet 29 = .ok (.ireturn, 1) ∧ decode cX1_nextSheet 30 = .ok (.aload_n 0, 1) ∧ decode cX1_nextSheet 31 = .ok (.getfield 31, 3) ∧ decode cX1_nextSheet 34 = .ok (.ifCond .eq 15, 3) ∧ decode cX1_nextSheet 37 = .ok (.aload_n 0, 1) ∧ decode cX1_nextSheet 38 = .ok (.getfield 49, 3) ∧ decode cX1_nextSheet 41 = .ok (.aload_n 0, 1) ∧ decode cX1_nextSheet 42 = .ok (.getfield 37, 3) ∧ decode cX1_nextSheet 45 = .ok (.irem, 1) ∧ decode cX1_nextSheet 46 = .ok (.goto 12, 3) ∧ decode cX1_nextSheet 49 = .ok (.aload_n 0, 1) ∧ decode cX1_nextSheet 50 = .ok (.getfield 49, 3) ∧ decode cX1_nextSheet 53 = .ok (.aload_n 0, 1) ∧ decode cX1_nextSheet 54 = .ok (.getfield 15, 3) ∧ decode cX1_nextSheet 57 = .ok (.idiv, 1) ∧ decode cX1_nextSheet 58 = .ok (.ireturn, 1) ∧ True := dq_of (l := (0, .aload_n 0, 1) :: (1, .getfield 49, 3) :: (4, .aload_n 0, 1) :: (5, .getfield 40, 3) :: (8, .if_icmp .ge 19, 3) :: (11, .aload_n 0, 1) :: (12, .getfield 37, 3) :: (15, .iconst 1, 1) :: (16, .if_icmp .lt 11, 3) :: (19, .aload_n 0, 1) :: (20, .getfield 15, 3) :: (23, .iconst 1, 1) :: (24, .if_icmp .ge 6, 3) :: (27, .bipush (-4), 2) :: (29, .ireturn, 1) :: (30, .aload_n 0, 1) :: (31, .getfield 31, 3) :: (34, .ifCond .eq 15, 3) :: (37, .aload_n 0, 1) :: (38, .getfield 49, 3) :: (41, .aload_n 0, 1) :: (42, .getfield 37, 3) :: (45, .irem, 1) :: (46, .goto 12, 3) :: (49, .aload_n 0, 1) :: (50, .getfield 49, 3) :: (53, .aload_n 0, 1) :: (54, .getfield 15, 3) :: (57, .idiv, 1) :: (58, .ireturn, 1) :: []) (by decide +kernel)
set_option maxRecDepth 100000 in
theorem D_X1_nextCopy : decode cX1_nextCopy 0 = .ok (.aload_n 0, 1) ∧ decode cX1_nextCopy 1 = .ok (.getfield 49, 3) ∧ decode cX1_nextCopy 4 = .ok (.aload_n 0, 1) ∧ decode cX1_nextCopy 5 = .ok (.getfield 40, 3) ∧ decode cX1_nextCopy 8 = .ok (.if_icmp .ge 19, 3) ∧ decode cX1_nextCopy 11 = .ok (.aload_n 0, 1) ∧ decode cX1_nextCopy 12 = .ok (.getfield 37, 3) ∧ decode cX1_nextCopy 15 = .ok (.iconst 1, 1) ∧ decode cX1_nextCopy 16 = .ok (.if_icmp .lt 11, 3) ∧ decode cX1_nextCopy 19 = .ok (.aload_n 0, 1) ∧ decode cX1_nextCopy 20 = .ok (.getfield 15, 3) ∧ decode cX1_nextCopy 23 = .ok (.iconst 1, 1) ∧ decode cX1_nextCopy 24 = .ok (.if_icmp .ge 6, 3) ∧ decode cX1_nextCopy 27 = .ok (.bipush (-4), 2) ∧ decode cX1_nextCopy 29 = .ok (.ireturn, 1) ∧ decode cX1_nextCopy 30 = .ok (.aload_n 0, 1) ∧ decode cX1_nextCopy 31 = .ok (.getfield 31, 3) ∧ decode cX1_nextCopy 34 = .ok (.ifCond .eq 15, 3) ∧ decode cX1_nextCopy 37 = .ok (.aload_n 0, 1) ∧ decode cX1_nextCopy 38 = .ok (.getfield 49, 3) ∧ decode cX1_nextCopy 41 = .ok (.aload_n 0, 1) ∧ decode cX1_nextCopy 42 = .ok (.getfield 37, 3) ∧ decode cX1_nextCopy 45 = .ok (.idiv, 1) ∧ decode cX1_nextCopy 46 = .ok (.goto 12, 3) ∧ decode cX1_nextCopy 49 = .ok (.aload_n 0, 1) ∧ decode cX1_nextCopy 50 = .ok (.getfield 49, 3) ∧ decode cX1_nextCopy 53 = .ok (.aload_n 0, 1) ∧ decode cX1_nextCopy 54 = .ok (.getfield 15, 3) ∧ decode cX1_nextCopy 57 = .ok (.irem, 1) ∧ decode cX1_nextCopy 58 = .ok (.ireturn, 1) ∧ True := dq_of (l := (0, .aload_n 0, 1) :: (1, .getfield 49, 3) :: (4, .aload_n 0, 1) :: (5, .getfield 40, 3) :: (8, .if_icmp .ge 19, 3) :: (11, .aload_n 0, 1) :: (12, .getfield 37, 3) :: (15, .iconst 1, 1) :: (16, .if_icmp .lt 11, 3) :: (19, .aload_n 0, 1) :: (20, .getfield 15, 3) :: (23, .iconst 1, 1) :: (24, .if_icmp .ge 6, 3) :: (27, .bipush (-4), 2) :: (29, .ireturn, 1) :: (30, .aload_n 0, 1) :: (31, .getfield 31, 3) :: (34, .ifCond .eq 15, 3) :: (37, .aload_n 0, 1) :: (38, .getfield 49, 3) :: (41, .aload_n 0, 1) :: (42, .getfield 37, 3) :: (45, .idiv, 1) :: (46, .goto 12, 3) :: (49, .aload_n 0, 1) :: (50, .getfield 49, 3) :: (53, .aload_n 0, 1) :: (54, .getfield 15, 3) :: (57, .irem, 1) :: (58, .ireturn, 1) :: []) (by decide +kernel)
set_option maxRecDepth 100000 in
theorem D_X1_sidesOfNextSheet : decode cX1_sidesOfNextSheet 0 = .ok (.aload_n 0, 1) ∧ decode cX1_sidesOfNextSheet 1 = .ok (.invokevirtual 62, 3) ∧ decode cX1_sidesOfNextSheet 4 = .ok (.aload_n 0, 1) ∧ decode cX1_sidesOfNextSheet 5 = .ok (.getfield 37, 3) ∧ decode cX1_sidesOfNextSheet 8 = .ok (.iconst 1, 1) ∧ decode cX1_sidesOfNextSheet 9 = .ok (.isub, 1) ∧ decode cX1_sidesOfNextSheet 10 = .ok (.if_icmp .ne 7, 3) ∧ decode cX1_sidesOfNextSheet 13 = .ok (.iconst 1, 1) ∧ decode cX1_sidesOfNextSheet 14 = .ok (.goto 4, 3) ∧ decode cX1_sidesOfNextSheet 17 = .ok (.iconst 0, 1) ∧ decode cX1_sidesOfNextSheet 18 = .ok (.istore_n 1, 1) ∧ decode cX1_sidesOfNextSheet 19 = .ok (.aload_n 0, 1) ∧ decode cX1_sidesOfNextSheet 20 = .ok (.getfield 27, 3) ∧ decode cX1_sidesOfNextSheet 23 = .ok (.ifCond .eq 20, 3) ∧ decode cX1_sidesOfNextSheet 26 = .ok (.iload_n 1, 1) ∧ decode cX1_sidesOfNextSheet 27 = .ok (.ifCond .eq 12, 3) ∧ decode cX1_sidesOfNextSheet 30 = .ok (.aload_n 0, 1) ∧ decode cX1_sidesOfNextSheet 31 = .ok (.getfield 9, 3) ∧ decode cX1_sidesOfNextSheet 34 = .ok (.iconst 2, 1) ∧ decode cX1_sidesOfNextSheet 35 = .ok (.irem, 1) ∧ decode cX1_sidesOfNextSheet 36 = .ok (.ifCond .ne 7, 3) ∧ decode cX1_sidesOfNextSheet 39 = .ok (.iconst 2, 1) ∧ decode cX1_sidesOfNextSheet 40 = .ok (.goto 4, 3) ∧ decode cX1_sidesOfNextSheet 43 = .ok (.iconst 1, 1) ∧ decode cX1_sidesOfNextSheet 44 = .ok (.ireturn, 1) ∧ True := dq_of (l := (0, .aload_n 0, 1) :: (1, .invokevirtual 62, 3) :: (4, .aload_n 0, 1) :: (5, .getfield 37, 3) :: (8, .iconst 1, 1) :: (9, .isub, 1) :: (10, .if_icmp .ne 7, 3) :: (13, .iconst 1, 1) :: (14, .goto 4, 3) :: (17, .iconst 0, 1) :: (18, .istore_n 1, 1) :: (19, .aload_n 0, 1) :: (20, .getfield 27, 3) :: (23, .ifCond .eq 20, 3) :: (26, .iload_n 1, 1) :: (27, .ifCond .eq 12, 3) :: (30, .aload_n 0, 1) :: (31, .getfield 9, 3) :: (34, .iconst 2, 1) :: (35, .irem, 1) :: (36, .ifCond .ne 7, 3) :: (39, .iconst 2, 1) :: (40, .goto 4, 3) :: (43, .iconst 1, 1) :: (44, .ireturn, 1) :: []) (by decide +kernel)
set_option maxRecDepth 100000 in
theorem D_X1_property : decode cX1_property 0 = .ok (.iload_n 1, 1) ∧ decode cX1_property 1 = .ok (.tableswitch 131 0 11 #[63, 68, 73, 78, 83, 88, 93, 106, 111, 116, 121, 126], 63) ∧ decode cX1_property 64 = .ok (.aload_n 0, 1) ∧ decode cX1_property 65 = .ok (.getfield 9, 3) ∧ decode cX1_property 68 = .ok (.ireturn, 1) ∧ decode cX1_property 69 = .ok (.aload_n 0, 1) ∧ decode cX1_property 70 = .ok (.getfield 15, 3) ∧ decode cX1_property 73 = .ok (.ireturn, 1) ∧ decode cX1_property 74 = .ok (.aload_n 0, 1) ∧ decode cX1_property 75 = .ok (.getfield 18, 3) ∧ decode cX1_property 78 = .ok (.ireturn, 1) ∧ decode cX1_property 79 = .ok (.aload_n 0, 1) ∧ decode cX1_property 80 = .ok (.getfield 21, 3) ∧ decode cX1_property 83 = .ok (.ireturn, 1) ∧ decode cX1_property 84 = .ok (.aload_n 0, 1) ∧ decode cX1_property 85 = .ok (.getfield 24, 3) ∧ decode cX1_property 88 = .ok (.ireturn, 1) ∧ decode cX1_property 89 = .ok (.aload_n 0, 1) ∧ decode cX1_property 90 = .ok (.getfield 43, 3) ∧ decode cX1_property 93 = .ok (.ireturn, 1) ∧ decode cX1_property 94 = .ok (.aload_n 0, 1) ∧ decode cX1_property 95 = .ok (.getfield 46, 3) ∧ decode cX1_property 98 = .ok (.ifCond .eq 7, 3) ∧ decode cX1_property 101 = .ok (.iconst 1, 1) ∧ decode cX1_property 102 = .ok (.goto 4, 3) ∧ decode cX1_property 105 = .ok (.iconst 0, 1) ∧ decode cX1_property 106 = .ok (.ireturn, 1) ∧ decode cX1_property 107 = .ok (.aload_n 0, 1) ∧ decode cX1_property 108 = .ok (.getfield 37, 3) ∧ decode cX1_property 111 = .ok (.ireturn, 1) ∧ decode cX1_property 112 = .ok (.aload_n 0, 1) ∧ decode cX1_property 113 = .ok (.getfield 40, 3) ∧ decode cX1_property 116 = .ok (.ireturn, 1) ∧ decode cX1_property 117 = .ok (.aload_n 0, 1) ∧ decode cX1_property 118 = .ok (.getfield 49, 3) ∧ decode cX1_property 121 = .ok (.ireturn, 1) ∧ decode cX1_property 122 = .ok (.aload_n 0, 1) ∧ decode cX1_property 123 = .ok (.getfield 52, 3) ∧ decode cX1_property 126 = .ok (.ireturn, 1) ∧ decode cX1_property 127 = .ok (.aload_n 0, 1) ∧ decode cX1_property 128 = .ok (.invokevirtual 62, 3) ∧ decode cX1_property 131 = .ok (.ireturn, 1) ∧ decode cX1_property 132 = .ok (.aload_n 0, 1) ∧ decode cX1_property 133 = .ok (.invokevirtual 66, 3) ∧ decode cX1_property 136 = .ok (.ireturn, 1) ∧ True := dq_of (l := (0, .iload_n 1, 1) :: (1, .tableswitch 131 0 11 #[63, 68, 73, 78, 83, 88, 93, 106, 111, 116, 121, 126], 63) :: (64, .aload_n 0, 1) :: (65, .getfield 9, 3) :: (68, .ireturn, 1) :: (69, .aload_n 0, 1) :: (70, .getfield 15, 3) :: (73, .ireturn, 1) :: (74, .aload_n 0, 1) :: (75, .getfield 18, 3) :: (78, .ireturn, 1) :: (79, .aload_n 0, 1) :: (80, .getfield 21, 3) :: (83, .ireturn, 1) :: (84, .aload_n 0, 1) :: (85, .getfield 24, 3) :: (88, .ireturn, 1) :: (89, .aload_n 0, 1) :: (90, .getfield 43, 3) :: (93, .ireturn, 1) :: (94, .aload_n 0, 1) :: (95, .getfield 46, 3) :: (98, .ifCond .eq 7, 3) :: (101, .iconst 1, 1) :: (102, .goto 4, 3) :: (105, .iconst 0, 1) :: (106, .ireturn, 1) :: (107, .aload_n 0, 1) :: (108, .getfield 37, 3) :: (111, .ireturn, 1) :: (112, .aload_n 0, 1) :: (113, .getfield 40, 3) :: (116, .ireturn, 1) :: (117, .aload_n 0, 1) :: (118, .getfield 49, 3) :: (121, .ireturn, 1) :: (122, .aload_n 0, 1) :: (123, .getfield 52, 3) :: (126, .ireturn, 1) :: (127, .aload_n 0, 1) :: (128, .invokevirtual 62, 3) :: (131, .ireturn, 1) :: (132, .aload_n 0, 1) :: (133, .invokevirtual 66, 3) :: (136, .ireturn, 1) :: []) (by decide +kernel)
set_option maxRecDepth 100000 in
theorem D_X2_init : decode cX2_init 0 = .ok (.aload_n 0, 1) ∧ decode cX2_init 1 = .ok (.invokespecial 3, 3) ∧ decode cX2_init 4 = .ok (.aload_n 0, 1) ∧ decode cX2_init 5 = .ok (.bipush 100, 2) ∧ decode cX2_init 7 = .ok (.newarray .char, 2) ∧ decode cX2_init 9 = .ok (.putfield 9, 3) ∧ decode cX2_init 12 = .ok (.return_, 1) ∧ True := dq_of (l := (0, .aload_n 0, 1) :: (1, .invokespecial 3, 3) :: (4, .aload_n 0, 1) :: (5, .bipush 100, 2) :: (7, .newarray .char, 2) :: (9, .putfield 9, 3) :: (12, .return_, 1) :: []) (by decide +kernel)
set_option maxRecDepth 100000 in
theorem D_X2_append : decode cX2_append 0 = .ok (.aload_n 0, 1) ∧ decode cX2_append 1 = .ok (.getfield 15, 3) ∧ decode cX2_append 4 = .ok (.bipush 100, 2) ∧ decode cX2_append 6 = .ok (.invokestatic 19, 3) ∧ decode cX2_append 9 = .ok (.ifCond .eq 23, 3) ∧ decode cX2_append 12 = .ok (.aload_n 0, 1) ∧ decode cX2_append 13 = .ok (.getfield 9, 3) ∧ decode cX2_append 16 = .ok (.aload_n 0, 1) ∧ decode cX2_append 17 = .ok (.getfield 15, 3) ∧ decode cX2_append 20 = .ok (.iload_n 1, 1) ∧ decode cX2_append 21 = .ok (.castore, 1) ∧ decode cX2_append 22 = .ok (.aload_n 0, 1) ∧ decode cX2_append 23 = .ok (.dup, 1) ∧ decode cX2_append 24 = .ok (.getfield 15, 3) ∧ decode cX2_append 27 = .ok (.iconst 1, 1) ∧ decode cX2_append 28 = .ok (.iadd, 1) ∧ decode cX2_append 29 = .ok (.putfield 15, 3) ∧ decode cX2_append 32 = .ok (.return_, 1) ∧ True := dq_of (l := (0, .aload_n 0, 1) :: (1, .getfield 15, 3) :: (4, .bipush 100, 2) :: (6, .invokestatic 19, 3) :: (9, .ifCond .eq 23, 3) :: (12, .aload_n 0, 1) :: (13, .getfield 9, 3) :: (16, .aload_n 0, 1) :: (17, .getfield 15, 3) :: (20, .iload_n 1, 1) :: (21, .castore, 1) :: (22, .aload_n 0, 1) :: (23, .dup, 1) :: (24, .getfield 15, 3) :: (27, .iconst 1, 1) :: (28, .iadd, 1) :: (29, .putfield 15, 3) :: (32, .return_, 1) :: []) (by decide +kernel)
set_option maxRecDepth 100000 in
theorem D_X2_examine : decode cX2_examine 0 = .ok (.aload_n 2, 1) ∧ decode cX2_examine 1 = .ok (.getfield 23, 3) ∧ decode cX2_examine 4 = .ok (.iconst 3, 1) ∧ decode cX2_examine 5 = .ok (.iaload, 1) ∧ decode cX2_examine 6 = .ok (.istore_n 3, 1) ∧ decode cX2_examine 7 = .ok (.aload_n 2, 1) ∧ decode cX2_examine 8 = .ok (.getfield 29, 3) ∧ decode cX2_examine 11 = .ok (.invokevirtual 33, 3) ∧ decode cX2_examine 14 = .ok (.istore 4, 2) ∧ decode cX2_examine 16 = .ok (.aload_n 0, 1) ∧ decode cX2_examine 17 = .ok (.iconst 0, 1) ∧ decode cX2_examine 18 = .ok (.putfield 39, 3) ∧ decode cX2_examine 21 = .ok (.aload_n 0, 1) ∧ decode cX2_examine 22 = .ok (.iconst 0, 1) ∧ decode cX2_examine 23 = .ok (.putfield 42, 3) ∧ decode cX2_examine 26 = .ok (.aload_n 0, 1) ∧ decode cX2_examine 27 = .ok (.iconst 0, 1) ∧ decode cX2_examine 28 = .ok (.putfield 45, 3) ∧ decode cX2_examine 31 = .ok (.iconst 0, 1) ∧ decode cX2_examine 32 = .ok (.istore 5, 2) ∧ decode cX2_examine 34 = .ok (.iload 5, 2) ∧ decode cX2_examine 36 = .ok (.bipush 100, 2) ∧ decode cX2_examine 38 = .ok (.if_icmp .ge 64, 3) ∧ decode cX2_examine 41 = .ok (.aload_n 0, 1) ∧ decode cX2_examine 42 = .ok (.getfield 39, 3) ∧ decode cX2_examine 45 = .ok (.aload_n 0, 1) ∧ decode cX2_examine 46 = .ok (.getfield 15, 3) ∧ decode cX2_examine 49 = .ok (.if_icmp .ge 53, 3) ∧ decode cX2_examine 52 = .ok (.aload_n 0, 1) ∧ decode cX2_examine 53 = .ok (.getfield 45, 3) ∧ decode cX2_examine 56 = .ok (.ifCond .ne 46, 3) ∧ decode cX2_examine 59 = .ok (.aload_n 0, 1) ∧ decode cX2_examine 60 = .ok (.aload_n 0, 1) ∧ decode cX2_examine 61 = .ok (.getfield 39, 3) ∧ decode cX2_examine 64 = .ok (.putfield 48, 3) ∧ decode cX2_examine 67 = .ok (.aload_n 0, 1) ∧ decode cX2_examine 68 = .ok (.aload_n 0, 1) ∧ decode cX2_examine 69 = .ok (.aload_n 1, 1) ∧ decode cX2_examine 70 = .ok (.iload_n 3, 1) ∧ decode cX2_examine 71 = .ok (.iload 4, 2) ∧ decode cX2_examine 73 = .ok (.invokevirtual 51, 3) ∧ decode cX2_examine 76 = .ok (.putfield 45, 3) ∧ decode cX2_examine 79 = .ok (.aload_n 0, 1) ∧ decode cX2_examine 80 = .ok (.getfield 45, 3) ∧ decode cX2_examine 83 = .ok (.ifCond .ne 13, 3) ∧ decode cX2_examine 86 = .ok (.aload_n 0, 1) ∧ decode cX2_examine 87 = .ok (.dup, 1) ∧ decode cX2_examine 88 = .ok (.getfield 42, 3) ∧ decode cX2_examine 91 = .ok (.iconst 1, 1) ∧ decode cX2_examine 92 = .ok (.iadd, 1) ∧ decode cX2_examine 93 = .ok (.putfield 42, 3) ∧ decode cX2_examine 96 = .ok (.iinc 5 1, 3) ∧ decode cX2_examine 99 = .ok (.goto (-65), 3) ∧ decode cX2_examine 102 = .ok (.return_, 1) ∧ True := dq_of (l := (0, .aload_n 2, 1) :: (1, .getfield 23, 3) :: (4, .iconst 3, 1) :: (5, .iaload, 1) :: (6, .istore_n 3, 1) :: (7, .aload_n 2, 1) :: (8, .getfield 29, 3) :: (11, .invokevirtual 33, 3) :: (14, .istore 4, 2) :: (16, .aload_n 0, 1) :: (17, .iconst 0, 1) :: (18, .putfield 39, 3) :: (21, .aload_n 0, 1) :: (22, .iconst 0, 1) :: (23, .putfield 42, 3) :: (26, .aload_n 0, 1) :: (27, .iconst 0, 1) :: (28, .putfield 45, 3) :: (31, .iconst 0, 1) :: (32, .istore 5, 2) :: (34, .iload 5, 2) :: (36, .bipush 100, 2) :: (38, .if_icmp .ge 64, 3) :: (41, .aload_n 0, 1) :: (42, .getfield 39, 3) :: (45, .aload_n 0, 1) :: (46, .getfield 15, 3) :: (49, .if_icmp .ge 53, 3) :: (52, .aload_n 0, 1) :: (53, .getfield 45, 3) :: (56, .ifCond .ne 46, 3) :: (59, .aload_n 0, 1) :: (60, .aload_n 0, 1) :: (61, .getfield 39, 3) :: (64, .putfield 48, 3) :: (67, .aload_n 0, 1) :: (68, .aload_n 0, 1) :: (69, .aload_n 1, 1) :: (70, .iload_n 3, 1) :: (71, .iload 4, 2) :: (73, .invokevirtual 51, 3) :: (76, .putfield 45, 3) :: (79, .aload_n 0, 1) :: (80, .getfield 45, 3) :: (83, .ifCond .ne 13, 3) :: (86, .aload_n 0, 1) :: (87, .dup, 1) :: (88, .getfield 42, 3) :: (91, .iconst 1, 1) :: (92, .iadd, 1) :: (93, .putfield 42, 3) :: (96, .iinc 5 1, 3) :: (99, .goto (-65), 3) :: (102, .return_, 1) :: []) (by decide +kernel)
set_option maxRecDepth 100000 in
theorem D_X2_reasonOfNext : decode cX2_reasonOfNext 0 = .ok (.aload_n 0, 1) ∧ decode cX2_reasonOfNext 1 = .ok (.aload_n 1, 1) ∧ decode cX2_reasonOfNext 2 = .ok (.invokevirtual 55, 3) ∧ decode cX2_reasonOfNext 5 = .ok (.ifCond .ne 5, 3) ∧ decode cX2_reasonOfNext 8 = .ok (.iconst 1, 1) ∧ decode cX2_reasonOfNext 9 = .ok (.ireturn, 1) ∧ decode cX2_reasonOfNext 10 = .ok (.aload_n 1, 1) ∧ decode cX2_reasonOfNext 11 = .ok (.invokevirtual 59, 3) ∧ decode cX2_reasonOfNext 14 = .ok (.ifCond .ne 5, 3) ∧ decode cX2_reasonOfNext 17 = .ok (.iconst 2, 1) ∧ decode cX2_reasonOfNext 18 = .ok (.ireturn, 1) ∧ decode cX2_reasonOfNext 19 = .ok (.aload_n 1, 1) ∧ decode cX2_reasonOfNext 20 = .ok (.iload_n 2, 1) ∧ decode cX2_reasonOfNext 21 = .ok (.invokevirtual 65, 3) ∧ decode cX2_reasonOfNext 24 = .ok (.ifCond .eq 5, 3) ∧ decode cX2_reasonOfNext 27 = .ok (.iconst 3, 1) ∧ decode cX2_reasonOfNext 28 = .ok (.ireturn, 1) ∧ decode cX2_reasonOfNext 29 = .ok (.aload_n 0, 1) ∧ decode cX2_reasonOfNext 30 = .ok (.getfield 42, 3) ∧ decode cX2_reasonOfNext 33 = .ok (.iload_n 3, 1) ∧ decode cX2_reasonOfNext 34 = .ok (.if_icmp .lt 7, 3) ∧ decode cX2_reasonOfNext 37 = .ok (.iconst 4, 1) ∧ decode cX2_reasonOfNext 38 = .ok (.goto 4, 3) ∧ decode cX2_reasonOfNext 41 = .ok (.iconst 0, 1) ∧ decode cX2_reasonOfNext 42 = .ok (.ireturn, 1) ∧ True := dq_of (l := (0, .aload_n 0, 1) :: (1, .aload_n 1, 1) :: (2, .invokevirtual 55, 3) :: (5, .ifCond .ne 5, 3) :: (8, .iconst 1, 1) :: (9, .ireturn, 1) :: (10, .aload_n 1, 1) :: (11, .invokevirtual 59, 3) :: (14, .ifCond .ne 5, 3) :: (17, .iconst 2, 1) :: (18, .ireturn, 1) :: (19, .aload_n 1, 1) :: (20, .iload_n 2, 1) :: (21, .invokevirtual 65, 3) :: (24, .ifCond .eq 5, 3) :: (27, .iconst 3, 1) :: (28, .ireturn, 1) :: (29, .aload_n 0, 1) :: (30, .getfield 42, 3) :: (33, .iload_n 3, 1) :: (34, .if_icmp .lt 7, 3) :: (37, .iconst 4, 1) :: (38, .goto 4, 3) :: (41, .iconst 0, 1) :: (42, .ireturn, 1) :: []) (by decide +kernel)
set_option maxRecDepth 100000 in
theorem D_X2_readJob : decode cX2_readJob 0 = .ok (.aload_n 0, 1) ∧ decode cX2_readJob 1 = .ok (.ldc 69, 2) ∧ decode cX2_readJob 3 = .ok (.invokevirtual 71, 3) ∧ decode cX2_readJob 6 = .ok (.istore_n 2, 1) ∧ decode cX2_readJob 7 = .ok (.iload_n 2, 1) ∧ decode cX2_readJob 8 = .ok (.iconst (-1), 1) ∧ decode cX2_readJob 9 = .ok (.if_icmp .ne 7, 3) ∧ decode cX2_readJob 12 = .ok (.iconst (-1), 1) ∧ decode cX2_readJob 13 = .ok (.goto 9, 3) ∧ decode cX2_readJob 16 = .ok (.aload_n 0, 1) ∧ decode cX2_readJob 17 = .ok (.ldc 75, 2) ∧ decode cX2_readJob 19 = .ok (.invokevirtual 71, 3) ∧ decode cX2_readJob 22 = .ok (.istore_n 3, 1) ∧ decode cX2_readJob 23 = .ok (.iload_n 3, 1) ∧ decode cX2_readJob 24 = .ok (.iconst (-1), 1) ∧ decode cX2_readJob 25 = .ok (.if_icmp .ne 5, 3) ∧ decode cX2_readJob 28 = .ok (.iconst 0, 1) ∧ decode cX2_readJob 29 = .ok (.ireturn, 1) ∧ decode cX2_readJob 30 = .ok (.aload_n 0, 1) ∧ decode cX2_readJob 31 = .ok (.invokevirtual 77, 3) ∧ decode cX2_readJob 34 = .ok (.istore 4, 2) ∧ decode cX2_readJob 36 = .ok (.aload_n 0, 1) ∧ decode cX2_readJob 37 = .ok (.invokevirtual 80, 3) ∧ decode cX2_readJob 40 = .ok (.istore 5, 2) ∧ decode cX2_readJob 42 = .ok (.iload 5, 2) ∧ decode cX2_readJob 44 = .ok (.iconst (-1), 1) ∧ decode cX2_readJob 45 = .ok (.if_icmp .ne 7, 3) ∧ decode cX2_readJob 48 = .ok (.iconst (-1), 1) ∧ decode cX2_readJob 49 = .ok (.goto 7, 3) ∧ decode cX2_readJob 52 = .ok (.aload_n 0, 1) ∧ decode cX2_readJob 53 = .ok (.invokevirtual 83, 3) ∧ decode cX2_readJob 56 = .ok (.istore 6, 2) ∧ decode cX2_readJob 58 = .ok (.iload 6, 2) ∧ decode cX2_readJob 60 = .ok (.iconst (-1), 1) ∧ decode cX2_readJob 61 = .ok (.if_icmp .ne 5, 3) ∧ decode cX2_readJob 64 = .ok (.iconst 0, 1) ∧ decode cX2_readJob 65 = .ok (.ireturn, 1) ∧ decode cX2_readJob 66 = .ok (.aload_n 1, 1) ∧ decode cX2_readJob 67 = .ok (.iload_n 2, 1) ∧ decode cX2_readJob 68 = .ok (.iload_n 3, 1) ∧ decode cX2_readJob 69 = .ok (.iload 5, 2) ∧ decode cX2_readJob 71 = .ok (.iload 6, 2) ∧ decode cX2_readJob 73 = .ok (.iload 4, 2) ∧ decode cX2_readJob 75 = .ok (.invokevirtual 86, 3) ∧ decode cX2_readJob 78 = .ok (.iconst 1, 1) ∧ decode cX2_readJob 79 = .ok (.ireturn, 1) ∧ True := dq_of (l := (0, .aload_n 0, 1) :: (1, .ldc 69, 2) :: (3, .invokevirtual 71, 3) :: (6, .istore_n 2, 1) :: (7, .iload_n 2, 1) :: (8, .iconst (-1), 1) :: (9, .if_icmp .ne 7, 3) :: (12, .iconst (-1), 1) :: (13, .goto 9, 3) :: (16, .aload_n 0, 1) :: (17, .ldc 75, 2) :: (19, .invokevirtual 71, 3) :: (22, .istore_n 3, 1) :: (23, .iload_n 3, 1) :: (24, .iconst (-1), 1) :: (25, .if_icmp .ne 5, 3) :: (28, .iconst 0, 1) :: (29, .ireturn, 1) :: (30, .aload_n 0, 1) :: (31, .invokevirtual 77, 3) :: (34, .istore 4, 2) :: (36, .aload_n 0, 1) :: (37, .invokevirtual 80, 3) :: (40, .istore 5, 2) :: (42, .iload 5, 2) :: (44, .iconst (-1), 1) :: (45, .if_icmp .ne 7, 3) :: (48, .iconst (-1), 1) :: (49, .goto 7, 3) :: (52, .aload_n 0, 1) :: (53, .invokevirtual 83, 3) :: (56, .istore 6, 2) :: (58, .iload 6, 2) :: (60, .iconst (-1), 1) :: (61, .if_icmp .ne 5, 3) :: (64, .iconst 0, 1) :: (65, .ireturn, 1) :: (66, .aload_n 1, 1) :: (67, .iload_n 2, 1) :: (68, .iload_n 3, 1) :: (69, .iload 5, 2) :: (71, .iload 6, 2) :: (73, .iload 4, 2) :: (75, .invokevirtual 86, 3) :: (78, .iconst 1, 1) :: (79, .ireturn, 1) :: []) (by decide +kernel)
set_option maxRecDepth 100000 in
theorem D_X2_readNumber : decode cX2_readNumber 0 = .ok (.iconst 0, 1) ∧ decode cX2_readNumber 1 = .ok (.istore_n 2, 1) ∧ decode cX2_readNumber 2 = .ok (.iconst 0, 1) ∧ decode cX2_readNumber 3 = .ok (.istore_n 3, 1) ∧ decode cX2_readNumber 4 = .ok (.iload_n 3, 1) ∧ decode cX2_readNumber 5 = .ok (.iconst 3, 1) ∧ decode cX2_readNumber 6 = .ok (.if_icmp .ge 37, 3) ∧ decode cX2_readNumber 9 = .ok (.aload_n 0, 1) ∧ decode cX2_readNumber 10 = .ok (.invokevirtual 90, 3) ∧ decode cX2_readNumber 13 = .ok (.iconst (-1), 1) ∧ decode cX2_readNumber 14 = .ok (.if_icmp .eq 29, 3) ∧ decode cX2_readNumber 17 = .ok (.iload_n 2, 1) ∧ decode cX2_readNumber 18 = .ok (.bipush 10, 2) ∧ decode cX2_readNumber 20 = .ok (.imul, 1) ∧ decode cX2_readNumber 21 = .ok (.aload_n 0, 1) ∧ decode cX2_readNumber 22 = .ok (.invokevirtual 90, 3) ∧ decode cX2_readNumber 25 = .ok (.iadd, 1) ∧ decode cX2_readNumber 26 = .ok (.istore_n 2, 1) ∧ decode cX2_readNumber 27 = .ok (.iinc 3 1, 3) ∧ decode cX2_readNumber 30 = .ok (.aload_n 0, 1) ∧ decode cX2_readNumber 31 = .ok (.dup, 1) ∧ decode cX2_readNumber 32 = .ok (.getfield 39, 3) ∧ decode cX2_readNumber 35 = .ok (.iconst 1, 1) ∧ decode cX2_readNumber 36 = .ok (.iadd, 1) ∧ decode cX2_readNumber 37 = .ok (.putfield 39, 3) ∧ decode cX2_readNumber 40 = .ok (.goto (-36), 3) ∧ decode cX2_readNumber 43 = .ok (.iload_n 3, 1) ∧ decode cX2_readNumber 44 = .ok (.ifCond .le 15, 3) ∧ decode cX2_readNumber 47 = .ok (.aload_n 0, 1) ∧ decode cX2_readNumber 48 = .ok (.aload_n 1, 1) ∧ decode cX2_readNumber 49 = .ok (.invokevirtual 93, 3) ∧ decode cX2_readNumber 52 = .ok (.ifCond .eq 7, 3) ∧ decode cX2_readNumber 55 = .ok (.iload_n 2, 1) ∧ decode cX2_readNumber 56 = .ok (.goto 4, 3) ∧ decode cX2_readNumber 59 = .ok (.iconst (-1), 1) ∧ decode cX2_readNumber 60 = .ok (.ireturn, 1) ∧ True := dq_of (l := (0, .iconst 0, 1) :: (1, .istore_n 2, 1) :: (2, .iconst 0, 1) :: (3, .istore_n 3, 1) :: (4, .iload_n 3, 1) :: (5, .iconst 3, 1) :: (6, .if_icmp .ge 37, 3) :: (9, .aload_n 0, 1) :: (10, .invokevirtual 90, 3) :: (13, .iconst (-1), 1) :: (14, .if_icmp .eq 29, 3) :: (17, .iload_n 2, 1) :: (18, .bipush 10, 2) :: (20, .imul, 1) :: (21, .aload_n 0, 1) :: (22, .invokevirtual 90, 3) :: (25, .iadd, 1) :: (26, .istore_n 2, 1) :: (27, .iinc 3 1, 3) :: (30, .aload_n 0, 1) :: (31, .dup, 1) :: (32, .getfield 39, 3) :: (35, .iconst 1, 1) :: (36, .iadd, 1) :: (37, .putfield 39, 3) :: (40, .goto (-36), 3) :: (43, .iload_n 3, 1) :: (44, .ifCond .le 15, 3) :: (47, .aload_n 0, 1) :: (48, .aload_n 1, 1) :: (49, .invokevirtual 93, 3) :: (52, .ifCond .eq 7, 3) :: (55, .iload_n 2, 1) :: (56, .goto 4, 3) :: (59, .iconst (-1), 1) :: (60, .ireturn, 1) :: []) (by decide +kernel)
set_option maxRecDepth 100000 in
theorem D_X2_digitAtPlace : decode cX2_digitAtPlace 0 = .ok (.aload_n 0, 1) ∧ decode cX2_digitAtPlace 1 = .ok (.getfield 39, 3) ∧ decode cX2_digitAtPlace 4 = .ok (.ifCond .lt 23, 3) ∧ decode cX2_digitAtPlace 7 = .ok (.aload_n 0, 1) ∧ decode cX2_digitAtPlace 8 = .ok (.getfield 39, 3) ∧ decode cX2_digitAtPlace 11 = .ok (.aload_n 0, 1) ∧ decode cX2_digitAtPlace 12 = .ok (.getfield 15, 3) ∧ decode cX2_digitAtPlace 15 = .ok (.if_icmp .ge 12, 3) ∧ decode cX2_digitAtPlace 18 = .ok (.aload_n 0, 1) ∧ decode cX2_digitAtPlace 19 = .ok (.getfield 39, 3) ∧ decode cX2_digitAtPlace 22 = .ok (.bipush 100, 2) ∧ decode cX2_digitAtPlace 24 = .ok (.if_icmp .lt 5, 3) ∧ decode cX2_digitAtPlace 27 = .ok (.iconst (-1), 1) ∧ decode cX2_digitAtPlace 28 = .ok (.ireturn, 1) ∧ decode cX2_digitAtPlace 29 = .ok (.aload_n 0, 1) ∧ decode cX2_digitAtPlace 30 = .ok (.getfield 9, 3) ∧ decode cX2_digitAtPlace 33 = .ok (.aload_n 0, 1) ∧ decode cX2_digitAtPlace 34 = .ok (.getfield 39, 3) ∧ decode cX2_digitAtPlace 37 = .ok (.caload, 1) ∧ decode cX2_digitAtPlace 38 = .ok (.bipush 48, 2) ∧ decode cX2_digitAtPlace 40 = .ok (.isub, 1) ∧ decode cX2_digitAtPlace 41 = .ok (.istore_n 1, 1) ∧ decode cX2_digitAtPlace 42 = .ok (.iload_n 1, 1) ∧ decode cX2_digitAtPlace 43 = .ok (.ifCond .lt 13, 3) ∧ decode cX2_digitAtPlace 46 = .ok (.iload_n 1, 1) ∧ decode cX2_digitAtPlace 47 = .ok (.bipush 9, 2) ∧ decode cX2_digitAtPlace 49 = .ok (.if_icmp .gt 7, 3) ∧ decode cX2_digitAtPlace 52 = .ok (.iload_n 1, 1) ∧ decode cX2_digitAtPlace 53 = .ok (.goto 4, 3) ∧ decode cX2_digitAtPlace 56 = .ok (.iconst (-1), 1) ∧ decode cX2_digitAtPlace 57 = .ok (.ireturn, 1) ∧ True := dq_of (l := (0, .aload_n 0, 1) :: (1, .getfield 39, 3) :: (4, .ifCond .lt 23, 3) :: (7, .aload_n 0, 1) :: (8, .getfield 39, 3) :: (11, .aload_n 0, 1) :: (12, .getfield 15, 3) :: (15, .if_icmp .ge 12, 3) :: (18, .aload_n 0, 1) :: (19, .getfield 39, 3) :: (22, .bipush 100, 2) :: (24, .if_icmp .lt 5, 3) :: (27, .iconst (-1), 1) :: (28, .ireturn, 1) :: (29, .aload_n 0, 1) :: (30, .getfield 9, 3) :: (33, .aload_n 0, 1) :: (34, .getfield 39, 3) :: (37, .caload, 1) :: (38, .bipush 48, 2) :: (40, .isub, 1) :: (41, .istore_n 1, 1) :: (42, .iload_n 1, 1) :: (43, .ifCond .lt 13, 3) :: (46, .iload_n 1, 1) :: (47, .bipush 9, 2) :: (49, .if_icmp .gt 7, 3) :: (52, .iload_n 1, 1) :: (53, .goto 4, 3) :: (56, .iconst (-1), 1) :: (57, .ireturn, 1) :: []) (by decide +kernel)
set_option maxRecDepth 100000 in
theorem D_X2_readHow : decode cX2_readHow 0 = .ok (.iconst 0, 1) ∧ decode cX2_readHow 1 = .ok (.istore_n 1, 1) ∧ decode cX2_readHow 2 = .ok (.aload_n 0, 1) ∧ decode cX2_readHow 3 = .ok (.ldc 97, 2) ∧ decode cX2_readHow 5 = .ok (.invokevirtual 93, 3) ∧ decode cX2_readHow 8 = .ok (.ifCond .eq 6, 3) ∧ decode cX2_readHow 11 = .ok (.iinc 1 1, 3) ∧ decode cX2_readHow 14 = .ok (.aload_n 0, 1) ∧ decode cX2_readHow 15 = .ok (.ldc 99, 2) ∧ decode cX2_readHow 17 = .ok (.invokevirtual 93, 3) ∧ decode cX2_readHow 20 = .ok (.ifCond .eq 6, 3) ∧ decode cX2_readHow 23 = .ok (.iinc 1 2, 3) ∧ decode cX2_readHow 26 = .ok (.aload_n 0, 1) ∧ decode cX2_readHow 27 = .ok (.ldc 101, 2) ∧ decode cX2_readHow 29 = .ok (.invokevirtual 93, 3) ∧ decode cX2_readHow 32 = .ok (.ifCond .eq 9, 3) ∧ decode cX2_readHow 35 = .ok (.iinc 1 4, 3) ∧ decode cX2_readHow 38 = .ok (.goto 15, 3) ∧ decode cX2_readHow 41 = .ok (.aload_n 0, 1) ∧ decode cX2_readHow 42 = .ok (.ldc 103, 2) ∧ decode cX2_readHow 44 = .ok (.invokevirtual 93, 3) ∧ decode cX2_readHow 47 = .ok (.ifCond .eq 6, 3) ∧ decode cX2_readHow 50 = .ok (.iinc 1 8, 3) ∧ decode cX2_readHow 53 = .ok (.iload_n 1, 1) ∧ decode cX2_readHow 54 = .ok (.ireturn, 1) ∧ True := dq_of (l := (0, .iconst 0, 1) :: (1, .istore_n 1, 1) :: (2, .aload_n 0, 1) :: (3, .ldc 97, 2) :: (5, .invokevirtual 93, 3) :: (8, .ifCond .eq 6, 3) :: (11, .iinc 1 1, 3) :: (14, .aload_n 0, 1) :: (15, .ldc 99, 2) :: (17, .invokevirtual 93, 3) :: (20, .ifCond .eq 6, 3) :: (23, .iinc 1 2, 3) :: (26, .aload_n 0, 1) :: (27, .ldc 101, 2) :: (29, .invokevirtual 93, 3) :: (32, .ifCond .eq 9, 3) :: (35, .iinc 1 4, 3) :: (38, .goto 15, 3) :: (41, .aload_n 0, 1) :: (42, .ldc 103, 2) :: (44, .invokevirtual 93, 3) :: (47, .ifCond .eq 6, 3) :: (50, .iinc 1 8, 3) :: (53, .iload_n 1, 1) :: (54, .ireturn, 1) :: []) (by decide +kernel)
set_option maxRecDepth 100000 in
theorem D_X2_readSize : decode cX2_readSize 0 = .ok (.iconst 0, 1) ∧ decode cX2_readSize 1 = .ok (.istore_n 1, 1) ∧ decode cX2_readSize 2 = .ok (.iload_n 1, 1) ∧ decode cX2_readSize 3 = .ok (.iconst 4, 1) ∧ decode cX2_readSize 4 = .ok (.if_icmp .ge 22, 3) ∧ decode cX2_readSize 7 = .ok (.aload_n 0, 1) ∧ decode cX2_readSize 8 = .ok (.iload_n 1, 1) ∧ decode cX2_readSize 9 = .ok (.invokestatic 105, 3) ∧ decode cX2_readSize 12 = .ok (.invokevirtual 93, 3) ∧ decode cX2_readSize 15 = .ok (.ifCond .eq 5, 3) ∧ decode cX2_readSize 18 = .ok (.iload_n 1, 1) ∧ decode cX2_readSize 19 = .ok (.ireturn, 1) ∧ decode cX2_readSize 20 = .ok (.iinc 1 1, 3) ∧ decode cX2_readSize 23 = .ok (.goto (-21), 3) ∧ decode cX2_readSize 26 = .ok (.iconst (-1), 1) ∧ decode cX2_readSize 27 = .ok (.ireturn, 1) ∧ True := dq_of (l := (0, .iconst 0, 1) :: (1, .istore_n 1, 1) :: (2, .iload_n 1, 1) :: (3, .iconst 4, 1) :: (4, .if_icmp .ge 22, 3) :: (7, .aload_n 0, 1) :: (8, .iload_n 1, 1) :: (9, .invokestatic 105, 3) :: (12, .invokevirtual 93, 3) :: (15, .ifCond .eq 5, 3) :: (18, .iload_n 1, 1) :: (19, .ireturn, 1) :: (20, .iinc 1 1, 3) :: (23, .goto (-21), 3) :: (26, .iconst (-1), 1) :: (27, .ireturn, 1) :: []) (by decide +kernel)
set_option maxRecDepth 100000 in
theorem D_X2_readKind : decode cX2_readKind 0 = .ok (.iconst 0, 1) ∧ decode cX2_readKind 1 = .ok (.istore_n 1, 1) ∧ decode cX2_readKind 2 = .ok (.iload_n 1, 1) ∧ decode cX2_readKind 3 = .ok (.iconst 4, 1) ∧ decode cX2_readKind 4 = .ok (.if_icmp .ge 22, 3) ∧ decode cX2_readKind 7 = .ok (.aload_n 0, 1) ∧ decode cX2_readKind 8 = .ok (.iload_n 1, 1) ∧ decode cX2_readKind 9 = .ok (.invokestatic 109, 3) ∧ decode cX2_readKind 12 = .ok (.invokevirtual 93, 3) ∧ decode cX2_readKind 15 = .ok (.ifCond .eq 5, 3) ∧ decode cX2_readKind 18 = .ok (.iload_n 1, 1) ∧ decode cX2_readKind 19 = .ok (.ireturn, 1) ∧ decode cX2_readKind 20 = .ok (.iinc 1 1, 3) ∧ decode cX2_readKind 23 = .ok (.goto (-21), 3) ∧ decode cX2_readKind 26 = .ok (.iconst (-1), 1) ∧ decode cX2_readKind 27 = .ok (.ireturn, 1) ∧ True := dq_of (l := (0, .iconst 0, 1) :: (1, .istore_n 1, 1) :: (2, .iload_n 1, 1) :: (3, .iconst 4, 1) :: (4, .if_icmp .ge 22, 3) :: (7, .aload_n 0, 1) :: (8, .iload_n 1, 1) :: (9, .invokestatic 109, 3) :: (12, .invokevirtual 93, 3) :: (15, .ifCond .eq 5, 3) :: (18, .iload_n 1, 1) :: (19, .ireturn, 1) :: (20, .iinc 1 1, 3) :: (23, .goto (-21), 3) :: (26, .iconst (-1), 1) :: (27, .ireturn, 1) :: []) (by decide +kernel)
set_option maxRecDepth 100000 in
theorem D_X2_sizeWord : decode cX2_sizeWord 0 = .ok (.iload_n 0, 1) ∧ decode cX2_sizeWord 1 = .ok (.tableswitch 36 0 2 #[27, 30, 33], 27) ∧ decode cX2_sizeWord 28 = .ok (.ldc 112, 2) ∧ decode cX2_sizeWord 30 = .ok (.areturn, 1) ∧ decode cX2_sizeWord 31 = .ok (.ldc 114, 2) ∧ decode cX2_sizeWord 33 = .ok (.areturn, 1) ∧ decode cX2_sizeWord 34 = .ok (.ldc 116, 2) ∧ decode cX2_sizeWord 36 = .ok (.areturn, 1) ∧ decode cX2_sizeWord 37 = .ok (.ldc 118, 2) ∧ decode cX2_sizeWord 39 = .ok (.areturn, 1) ∧ True := dq_of (l := (0, .iload_n 0, 1) :: (1, .tableswitch 36 0 2 #[27, 30, 33], 27) :: (28, .ldc 112, 2) :: (30, .areturn, 1) :: (31, .ldc 114, 2) :: (33, .areturn, 1) :: (34, .ldc 116, 2) :: (36, .areturn, 1) :: (37, .ldc 118, 2) :: (39, .areturn, 1) :: []) (by decide +kernel)
set_option maxRecDepth 100000 in
theorem D_X2_kindWord : decode cX2_kindWord 0 = .ok (.iload_n 0, 1) ∧ decode cX2_kindWord 1 = .ok (.tableswitch 36 0 2 #[27, 30, 33], 27) ∧ decode cX2_kindWord 28 = .ok (.ldc 120, 2) ∧ decode cX2_kindWord 30 = .ok (.areturn, 1) ∧ decode cX2_kindWord 31 = .ok (.ldc 122, 2) ∧ decode cX2_kindWord 33 = .ok (.areturn, 1) ∧ decode cX2_kindWord 34 = .ok (.ldc 124, 2) ∧ decode cX2_kindWord 36 = .ok (.areturn, 1) ∧ decode cX2_kindWord 37 = .ok (.ldc 126, 2) ∧ decode cX2_kindWord 39 = .ok (.areturn, 1) ∧ True := dq_of (l := (0, .iload_n 0, 1) :: (1, .tableswitch 36 0 2 #[27, 30, 33], 27) :: (28, .ldc 120, 2) :: (30, .areturn, 1) :: (31, .ldc 122, 2) :: (33, .areturn, 1) :: (34, .ldc 124, 2) :: (36, .areturn, 1) :: (37, .ldc 126, 2) :: (39, .areturn, 1) :: []) (by decide +kernel)
set_option maxRecDepth 100000 in
theorem D_X2_skips : decode cX2_skips 0 = .ok (.aload_n 1, 1) ∧ decode cX2_skips 1 = .ok (.invokevirtual 128, 3) ∧ decode cX2_skips 4 = .ok (.istore_n 2, 1) ∧ decode cX2_skips 5 = .ok (.aload_n 0, 1) ∧ decode cX2_skips 6 = .ok (.getfield 39, 3) ∧ decode cX2_skips 9 = .ok (.ifCond .lt 25, 3) ∧ decode cX2_skips 12 = .ok (.iload_n 2, 1) ∧ decode cX2_skips 13 = .ok (.aload_n 0, 1) ∧ decode cX2_skips 14 = .ok (.getfield 15, 3) ∧ decode cX2_skips 17 = .ok (.aload_n 0, 1) ∧ decode cX2_skips 18 = .ok (.getfield 39, 3) ∧ decode cX2_skips 21 = .ok (.isub, 1) ∧ decode cX2_skips 22 = .ok (.if_icmp .gt 12, 3) ∧ decode cX2_skips 25 = .ok (.aload_n 0, 1) ∧ decode cX2_skips 26 = .ok (.getfield 15, 3) ∧ decode cX2_skips 29 = .ok (.bipush 100, 2) ∧ decode cX2_skips 31 = .ok (.if_icmp .le 5, 3) ∧ decode cX2_skips 34 = .ok (.iconst 0, 1) ∧ decode cX2_skips 35 = .ok (.ireturn, 1) ∧ decode cX2_skips 36 = .ok (.iconst 0, 1) ∧ decode cX2_skips 37 = .ok (.istore_n 3, 1) ∧ decode cX2_skips 38 = .ok (.iload_n 3, 1) ∧ decode cX2_skips 39 = .ok (.iload_n 2, 1) ∧ decode cX2_skips 40 = .ok (.if_icmp .ge 30, 3) ∧ decode cX2_skips 43 = .ok (.aload_n 0, 1) ∧ decode cX2_skips 44 = .ok (.getfield 9, 3) ∧ decode cX2_skips 47 = .ok (.aload_n 0, 1) ∧ decode cX2_skips 48 = .ok (.getfield 39, 3) ∧ decode cX2_skips 51 = .ok (.iload_n 3, 1) ∧ decode cX2_skips 52 = .ok (.iadd, 1) ∧ decode cX2_skips 53 = .ok (.caload, 1) ∧ decode cX2_skips 54 = .ok (.aload_n 1, 1) ∧ decode cX2_skips 55 = .ok (.iload_n 3, 1) ∧ decode cX2_skips 56 = .ok (.invokevirtual 132, 3) ∧ decode cX2_skips 59 = .ok (.if_icmp .eq 5, 3) ∧ decode cX2_skips 62 = .ok (.iconst 0, 1) ∧ decode cX2_skips 63 = .ok (.ireturn, 1) ∧ decode cX2_skips 64 = .ok (.iinc 3 1, 3) ∧ decode cX2_skips 67 = .ok (.goto (-29), 3) ∧ decode cX2_skips 70 = .ok (.aload_n 0, 1) ∧ decode cX2_skips 71 = .ok (.dup, 1) ∧ decode cX2_skips 72 = .ok (.getfield 39, 3) ∧ decode cX2_skips 75 = .ok (.iload_n 2, 1) ∧ decode cX2_skips 76 = .ok (.iadd, 1) ∧ decode cX2_skips 77 = .ok (.putfield 39, 3) ∧ decode cX2_skips 80 = .ok (.iconst 1, 1) ∧ decode cX2_skips 81 = .ok (.ireturn, 1) ∧ True := dq_of (l := (0, .aload_n 1, 1) :: (1, .invokevirtual 128, 3) :: (4, .istore_n 2, 1) :: (5, .aload_n 0, 1) :: (6, .getfield 39, 3) :: (9, .ifCond .lt 25, 3) :: (12, .iload_n 2, 1) :: (13, .aload_n 0, 1) :: (14, .getfield 15, 3) :: (17, .aload_n 0, 1) :: (18, .getfield 39, 3) :: (21, .isub, 1) :: (22, .if_icmp .gt 12, 3) :: (25, .aload_n 0, 1) :: (26, .getfield 15, 3) :: (29, .bipush 100, 2) :: (31, .if_icmp .le 5, 3) :: (34, .iconst 0, 1) :: (35, .ireturn, 1) :: (36, .iconst 0, 1) :: (37, .istore_n 3, 1) :: (38, .iload_n 3, 1) :: (39, .iload_n 2, 1) :: (40, .if_icmp .ge 30, 3) :: (43, .aload_n 0, 1) :: (44, .getfield 9, 3) :: (47, .aload_n 0, 1) :: (48, .getfield 39, 3) :: (51, .iload_n 3, 1) :: (52, .iadd, 1) :: (53, .caload, 1) :: (54, .aload_n 1, 1) :: (55, .iload_n 3, 1) :: (56, .invokevirtual 132, 3) :: (59, .if_icmp .eq 5, 3) :: (62, .iconst 0, 1) :: (63, .ireturn, 1) :: (64, .iinc 3 1, 3) :: (67, .goto (-29), 3) :: (70, .aload_n 0, 1) :: (71, .dup, 1) :: (72, .getfield 39, 3) :: (75, .iload_n 2, 1) :: (76, .iadd, 1) :: (77, .putfield 39, 3) :: (80, .iconst 1, 1) :: (81, .ireturn, 1) :: []) (by decide +kernel)
set_option maxRecDepth 100000 in
theorem D_X3_init : decode cX3_init 0 = .ok (.aload_n 0, 1) ∧ decode cX3_init 1 = .ok (.invokespecial 3, 3) ∧ decode cX3_init 4 = .ok (.aload_n 0, 1) ∧ decode cX3_init 5 = .ok (.bipush 9, 2) ∧ decode cX3_init 7 = .ok (.newarray .int, 2) ∧ decode cX3_init 9 = .ok (.putfield 9, 3) ∧ decode cX3_init 12 = .ok (.aload_n 0, 1) ∧ decode cX3_init 13 = .ok (.bipush 16, 2) ∧ decode cX3_init 15 = .ok (.newarray .int, 2) ∧ decode cX3_init 17 = .ok (.putfield 15, 3) ∧ decode cX3_init 20 = .ok (.aload_n 0, 1) ∧ decode cX3_init 21 = .ok (.bipush 16, 2) ∧ decode cX3_init 23 = .ok (.newarray .int, 2) ∧ decode cX3_init 25 = .ok (.putfield 18, 3) ∧ decode cX3_init 28 = .ok (.aload_n 0, 1) ∧ decode cX3_init 29 = .ok (.bipush 16, 2) ∧ decode cX3_init 31 = .ok (.newarray .int, 2) ∧ decode cX3_init 33 = .ok (.putfield 21, 3) ∧ decode cX3_init 36 = .ok (.return_, 1) ∧ True := dq_of (l := (0, .aload_n 0, 1) :: (1, .invokespecial 3, 3) :: (4, .aload_n 0, 1) :: (5, .bipush 9, 2) :: (7, .newarray .int, 2) :: (9, .putfield 9, 3) :: (12, .aload_n 0, 1) :: (13, .bipush 16, 2) :: (15, .newarray .int, 2) :: (17, .putfield 15, 3) :: (20, .aload_n 0, 1) :: (21, .bipush 16, 2) :: (23, .newarray .int, 2) :: (25, .putfield 18, 3) :: (28, .aload_n 0, 1) :: (29, .bipush 16, 2) :: (31, .newarray .int, 2) :: (33, .putfield 21, 3) :: (36, .return_, 1) :: []) (by decide +kernel)
set_option maxRecDepth 100000 in
theorem D_X3_copyFrom : decode cX3_copyFrom 0 = .ok (.aload_n 1, 1) ∧ decode cX3_copyFrom 1 = .ok (.getfield 9, 3) ∧ decode cX3_copyFrom 4 = .ok (.iconst 0, 1) ∧ decode cX3_copyFrom 5 = .ok (.aload_n 0, 1) ∧ decode cX3_copyFrom 6 = .ok (.getfield 9, 3) ∧ decode cX3_copyFrom 9 = .ok (.iconst 0, 1) ∧ decode cX3_copyFrom 10 = .ok (.bipush 9, 2) ∧ decode cX3_copyFrom 12 = .ok (.invokestatic 24, 3) ∧ decode cX3_copyFrom 15 = .ok (.aload_n 1, 1) ∧ decode cX3_copyFrom 16 = .ok (.getfield 15, 3) ∧ decode cX3_copyFrom 19 = .ok (.iconst 0, 1) ∧ decode cX3_copyFrom 20 = .ok (.aload_n 0, 1) ∧ decode cX3_copyFrom 21 = .ok (.getfield 15, 3) ∧ decode cX3_copyFrom 24 = .ok (.iconst 0, 1) ∧ decode cX3_copyFrom 25 = .ok (.bipush 16, 2) ∧ decode cX3_copyFrom 27 = .ok (.invokestatic 24, 3) ∧ decode cX3_copyFrom 30 = .ok (.aload_n 1, 1) ∧ decode cX3_copyFrom 31 = .ok (.getfield 18, 3) ∧ decode cX3_copyFrom 34 = .ok (.iconst 0, 1) ∧ decode cX3_copyFrom 35 = .ok (.aload_n 0, 1) ∧ decode cX3_copyFrom 36 = .ok (.getfield 18, 3) ∧ decode cX3_copyFrom 39 = .ok (.iconst 0, 1) ∧ decode cX3_copyFrom 40 = .ok (.bipush 16, 2) ∧ decode cX3_copyFrom 42 = .ok (.invokestatic 24, 3) ∧ decode cX3_copyFrom 45 = .ok (.aload_n 1, 1) ∧ decode cX3_copyFrom 46 = .ok (.getfield 21, 3) ∧ decode cX3_copyFrom 49 = .ok (.iconst 0, 1) ∧ decode cX3_copyFrom 50 = .ok (.aload_n 0, 1) ∧ decode cX3_copyFrom 51 = .ok (.getfield 21, 3) ∧ decode cX3_copyFrom 54 = .ok (.iconst 0, 1) ∧ decode cX3_copyFrom 55 = .ok (.bipush 16, 2) ∧ decode cX3_copyFrom 57 = .ok (.invokestatic 24, 3) ∧ decode cX3_copyFrom 60 = .ok (.aload_n 0, 1) ∧ decode cX3_copyFrom 61 = .ok (.aload_n 1, 1) ∧ decode cX3_copyFrom 62 = .ok (.getfield 30, 3) ∧ decode cX3_copyFrom 65 = .ok (.putfield 30, 3) ∧ decode cX3_copyFrom 68 = .ok (.aload_n 0, 1) ∧ decode cX3_copyFrom 69 = .ok (.aload_n 1, 1) ∧ decode cX3_copyFrom 70 = .ok (.getfield 34, 3) ∧ decode cX3_copyFrom 73 = .ok (.putfield 34, 3) ∧ decode cX3_copyFrom 76 = .ok (.return_, 1) ∧ True := dq_of (l := (0, .aload_n 1, 1) :: (1, .getfield 9, 3) :: (4, .iconst 0, 1) :: (5, .aload_n 0, 1) :: (6, .getfield 9, 3) :: (9, .iconst 0, 1) :: (10, .bipush 9, 2) :: (12, .invokestatic 24, 3) :: (15, .aload_n 1, 1) :: (16, .getfield 15, 3) :: (19, .iconst 0, 1) :: (20, .aload_n 0, 1) :: (21, .getfield 15, 3) :: (24, .iconst 0, 1) :: (25, .bipush 16, 2) :: (27, .invokestatic 24, 3) :: (30, .aload_n 1, 1) :: (31, .getfield 18, 3) :: (34, .iconst 0, 1) :: (35, .aload_n 0, 1) :: (36, .getfield 18, 3) :: (39, .iconst 0, 1) :: (40, .bipush 16, 2) :: (42, .invokestatic 24, 3) :: (45, .aload_n 1, 1) :: (46, .getfield 21, 3) :: (49, .iconst 0, 1) :: (50, .aload_n 0, 1) :: (51, .getfield 21, 3) :: (54, .iconst 0, 1) :: (55, .bipush 16, 2) :: (57, .invokestatic 24, 3) :: (60, .aload_n 0, 1) :: (61, .aload_n 1, 1) :: (62, .getfield 30, 3) :: (65, .putfield 30, 3) :: (68, .aload_n 0, 1) :: (69, .aload_n 1, 1) :: (70, .getfield 34, 3) :: (73, .putfield 34, 3) :: (76, .return_, 1) :: []) (by decide +kernel)
set_option maxRecDepth 100000 in
theorem D_X3_add : decode cX3_add 0 = .ok (.iload_n 1, 1) ∧ decode cX3_add 1 = .ok (.bipush 9, 2) ∧ decode cX3_add 3 = .ok (.invokestatic 37, 3) ∧ decode cX3_add 6 = .ok (.ifCond .eq 13, 3) ∧ decode cX3_add 9 = .ok (.aload_n 0, 1) ∧ decode cX3_add 10 = .ok (.getfield 9, 3) ∧ decode cX3_add 13 = .ok (.iload_n 1, 1) ∧ decode cX3_add 14 = .ok (.dup2, 1) ∧ decode cX3_add 15 = .ok (.iaload, 1) ∧ decode cX3_add 16 = .ok (.iload_n 2, 1) ∧ decode cX3_add 17 = .ok (.iadd, 1) ∧ decode cX3_add 18 = .ok (.iastore, 1) ∧ decode cX3_add 19 = .ok (.return_, 1) ∧ True := dq_of (l := (0, .iload_n 1, 1) :: (1, .bipush 9, 2) :: (3, .invokestatic 37, 3) :: (6, .ifCond .eq 13, 3) :: (9, .aload_n 0, 1) :: (10, .getfield 9, 3) :: (13, .iload_n 1, 1) :: (14, .dup2, 1) :: (15, .iaload, 1) :: (16, .iload_n 2, 1) :: (17, .iadd, 1) :: (18, .iastore, 1) :: (19, .return_, 1) :: []) (by decide +kernel)
set_option maxRecDepth 100000 in
theorem D_X3_addTakenSheet : decode cX3_addTakenSheet 0 = .ok (.aload_n 0, 1) ∧ decode cX3_addTakenSheet 1 = .ok (.iconst 0, 1) ∧ decode cX3_addTakenSheet 2 = .ok (.iconst 1, 1) ∧ decode cX3_addTakenSheet 3 = .ok (.invokevirtual 41, 3) ∧ decode cX3_addTakenSheet 6 = .ok (.iconst 0, 1) ∧ decode cX3_addTakenSheet 7 = .ok (.istore_n 3, 1) ∧ decode cX3_addTakenSheet 8 = .ok (.iload_n 3, 1) ∧ decode cX3_addTakenSheet 9 = .ok (.aload_n 0, 1) ∧ decode cX3_addTakenSheet 10 = .ok (.getfield 30, 3) ∧ decode cX3_addTakenSheet 13 = .ok (.if_icmp .ge 46, 3) ∧ decode cX3_addTakenSheet 16 = .ok (.iload_n 3, 1) ∧ decode cX3_addTakenSheet 17 = .ok (.bipush 16, 2) ∧ decode cX3_addTakenSheet 19 = .ok (.if_icmp .ge 40, 3) ∧ decode cX3_addTakenSheet 22 = .ok (.aload_n 0, 1) ∧ decode cX3_addTakenSheet 23 = .ok (.getfield 15, 3) ∧ decode cX3_addTakenSheet 26 = .ok (.iload_n 3, 1) ∧ decode cX3_addTakenSheet 27 = .ok (.iaload, 1) ∧ decode cX3_addTakenSheet 28 = .ok (.iload_n 1, 1) ∧ decode cX3_addTakenSheet 29 = .ok (.if_icmp .ne 24, 3) ∧ decode cX3_addTakenSheet 32 = .ok (.aload_n 0, 1) ∧ decode cX3_addTakenSheet 33 = .ok (.getfield 18, 3) ∧ decode cX3_addTakenSheet 36 = .ok (.iload_n 3, 1) ∧ decode cX3_addTakenSheet 37 = .ok (.iaload, 1) ∧ decode cX3_addTakenSheet 38 = .ok (.iload_n 2, 1) ∧ decode cX3_addTakenSheet 39 = .ok (.if_icmp .ne 14, 3) ∧ decode cX3_addTakenSheet 42 = .ok (.aload_n 0, 1) ∧ decode cX3_addTakenSheet 43 = .ok (.getfield 21, 3) ∧ decode cX3_addTakenSheet 46 = .ok (.iload_n 3, 1) ∧ decode cX3_addTakenSheet 47 = .ok (.dup2, 1) ∧ decode cX3_addTakenSheet 48 = .ok (.iaload, 1) ∧ decode cX3_addTakenSheet 49 = .ok (.iconst 1, 1) ∧ decode cX3_addTakenSheet 50 = .ok (.iadd, 1) ∧ decode cX3_addTakenSheet 51 = .ok (.iastore, 1) ∧ decode cX3_addTakenSheet 52 = .ok (.return_, 1) ∧ decode cX3_addTakenSheet 53 = .ok (.iinc 3 1, 3) ∧ decode cX3_addTakenSheet 56 = .ok (.goto (-48), 3) ∧ decode cX3_addTakenSheet 59 = .ok (.aload_n 0, 1) ∧ decode cX3_addTakenSheet 60 = .ok (.getfield 30, 3) ∧ decode cX3_addTakenSheet 63 = .ok (.bipush 16, 2) ∧ decode cX3_addTakenSheet 65 = .ok (.if_icmp .ge 43, 3) ∧ decode cX3_addTakenSheet 68 = .ok (.aload_n 0, 1) ∧ decode cX3_addTakenSheet 69 = .ok (.getfield 15, 3) ∧ decode cX3_addTakenSheet 72 = .ok (.aload_n 0, 1) ∧ decode cX3_addTakenSheet 73 = .ok (.getfield 30, 3) ∧ decode cX3_addTakenSheet 76 = .ok (.iload_n 1, 1) ∧ decode cX3_addTakenSheet 77 = .ok (.iastore, 1) ∧ decode cX3_addTakenSheet 78 = .ok (.aload_n 0, 1) ∧ decode cX3_addTakenSheet 79 = .ok (.getfield 18, 3) ∧ decode cX3_addTakenSheet 82 = .ok (.aload_n 0, 1) ∧ decode cX3_addTakenSheet 83 = .ok (.getfield 30, 3) ∧ decode cX3_addTakenSheet 86 = .ok (.iload_n 2, 1) ∧ decode cX3_addTakenSheet 87 = .ok (.iastore, 1) ∧ decode cX3_addTakenSheet 88 = .ok (.aload_n 0, 1) ∧ decode cX3_addTakenSheet 89 = .ok (.getfield 21, 3) ∧ decode cX3_addTakenSheet 92 = .ok (.aload_n 0, 1) ∧ decode cX3_addTakenSheet 93 = .ok (.getfield 30, 3) ∧ decode cX3_addTakenSheet 96 = .ok (.iconst 1, 1) ∧ decode cX3_addTakenSheet 97 = .ok (.iastore, 1) ∧ decode cX3_addTakenSheet 98 = .ok (.aload_n 0, 1) ∧ decode cX3_addTakenSheet 99 = .ok (.dup, 1) ∧ decode cX3_addTakenSheet 100 = .ok (.getfield 30, 3) ∧ decode cX3_addTakenSheet 103 = .ok (.iconst 1, 1) ∧ decode cX3_addTakenSheet 104 = .ok (.iadd, 1) ∧ decode cX3_addTakenSheet 105 = .ok (.putfield 30, 3) ∧ decode cX3_addTakenSheet 108 = .ok (.return_, 1) ∧ True := dq_of (l := (0, .aload_n 0, 1) :: (1, .iconst 0, 1) :: (2, .iconst 1, 1) :: (3, .invokevirtual 41, 3) :: (6, .iconst 0, 1) :: (7, .istore_n 3, 1) :: (8, .iload_n 3, 1) :: (9, .aload_n 0, 1) :: (10, .getfield 30, 3) :: (13, .if_icmp .ge 46, 3) :: (16, .iload_n 3, 1) :: (17, .bipush 16, 2) :: (19, .if_icmp .ge 40, 3) :: (22, .aload_n 0, 1) :: (23, .getfield 15, 3) :: (26, .iload_n 3, 1) :: (27, .iaload, 1) :: (28, .iload_n 1, 1) :: (29, .if_icmp .ne 24, 3) :: (32, .aload_n 0, 1) :: (33, .getfield 18, 3) :: (36, .iload_n 3, 1) :: (37, .iaload, 1) :: (38, .iload_n 2, 1) :: (39, .if_icmp .ne 14, 3) :: (42, .aload_n 0, 1) :: (43, .getfield 21, 3) :: (46, .iload_n 3, 1) :: (47, .dup2, 1) :: (48, .iaload, 1) :: (49, .iconst 1, 1) :: (50, .iadd, 1) :: (51, .iastore, 1) :: (52, .return_, 1) :: (53, .iinc 3 1, 3) :: (56, .goto (-48), 3) :: (59, .aload_n 0, 1) :: (60, .getfield 30, 3) :: (63, .bipush 16, 2) :: (65, .if_icmp .ge 43, 3) :: (68, .aload_n 0, 1) :: (69, .getfield 15, 3) :: (72, .aload_n 0, 1) :: (73, .getfield 30, 3) :: (76, .iload_n 1, 1) :: (77, .iastore, 1) :: (78, .aload_n 0, 1) :: (79, .getfield 18, 3) :: (82, .aload_n 0, 1) :: (83, .getfield 30, 3) :: (86, .iload_n 2, 1) :: (87, .iastore, 1) :: (88, .aload_n 0, 1) :: (89, .getfield 21, 3) :: (92, .aload_n 0, 1) :: (93, .getfield 30, 3) :: (96, .iconst 1, 1) :: (97, .iastore, 1) :: (98, .aload_n 0, 1) :: (99, .dup, 1) :: (100, .getfield 30, 3) :: (103, .iconst 1, 1) :: (104, .iadd, 1) :: (105, .putfield 30, 3) :: (108, .return_, 1) :: []) (by decide +kernel)
set_option maxRecDepth 100000 in
theorem D_X4_init : decode cX4_init 0 = .ok (.aload_n 0, 1) ∧ decode cX4_init 1 = .ok (.invokespecial 3, 3) ∧ decode cX4_init 4 = .ok (.aload_n 0, 1) ∧ decode cX4_init 5 = .ok (.new 9, 3) ∧ decode cX4_init 8 = .ok (.dup, 1) ∧ decode cX4_init 9 = .ok (.invokespecial 11, 3) ∧ decode cX4_init 12 = .ok (.putfield 12, 3) ∧ decode cX4_init 15 = .ok (.aload_n 0, 1) ∧ decode cX4_init 16 = .ok (.new 18, 3) ∧ decode cX4_init 19 = .ok (.dup, 1) ∧ decode cX4_init 20 = .ok (.invokespecial 20, 3) ∧ decode cX4_init 23 = .ok (.putfield 21, 3) ∧ decode cX4_init 26 = .ok (.aload_n 0, 1) ∧ decode cX4_init 27 = .ok (.new 25, 3) ∧ decode cX4_init 30 = .ok (.dup, 1) ∧ decode cX4_init 31 = .ok (.invokespecial 27, 3) ∧ decode cX4_init 34 = .ok (.putfield 28, 3) ∧ decode cX4_init 37 = .ok (.aload_n 0, 1) ∧ decode cX4_init 38 = .ok (.bipush 6, 2) ∧ decode cX4_init 40 = .ok (.newarray .int, 2) ∧ decode cX4_init 42 = .ok (.putfield 32, 3) ∧ decode cX4_init 45 = .ok (.aload_n 0, 1) ∧ decode cX4_init 46 = .ok (.bipush 100, 2) ∧ decode cX4_init 48 = .ok (.putfield 36, 3) ∧ decode cX4_init 51 = .ok (.aload_n 0, 1) ∧ decode cX4_init 52 = .ok (.iconst 0, 1) ∧ decode cX4_init 53 = .ok (.putfield 40, 3) ∧ decode cX4_init 56 = .ok (.getstatic 43, 3) ∧ decode cX4_init 59 = .ok (.iconst 0, 1) ∧ decode cX4_init 60 = .ok (.aload_n 0, 1) ∧ decode cX4_init 61 = .ok (.getfield 32, 3) ∧ decode cX4_init 64 = .ok (.iconst 0, 1) ∧ decode cX4_init 65 = .ok (.bipush 6, 2) ∧ decode cX4_init 67 = .ok (.invokestatic 46, 3) ∧ decode cX4_init 70 = .ok (.return_, 1) ∧ True := dq_of (l := (0, .aload_n 0, 1) :: (1, .invokespecial 3, 3) :: (4, .aload_n 0, 1) :: (5, .new 9, 3) :: (8, .dup, 1) :: (9, .invokespecial 11, 3) :: (12, .putfield 12, 3) :: (15, .aload_n 0, 1) :: (16, .new 18, 3) :: (19, .dup, 1) :: (20, .invokespecial 20, 3) :: (23, .putfield 21, 3) :: (26, .aload_n 0, 1) :: (27, .new 25, 3) :: (30, .dup, 1) :: (31, .invokespecial 27, 3) :: (34, .putfield 28, 3) :: (37, .aload_n 0, 1) :: (38, .bipush 6, 2) :: (40, .newarray .int, 2) :: (42, .putfield 32, 3) :: (45, .aload_n 0, 1) :: (46, .bipush 100, 2) :: (48, .putfield 36, 3) :: (51, .aload_n 0, 1) :: (52, .iconst 0, 1) :: (53, .putfield 40, 3) :: (56, .getstatic 43, 3) :: (59, .iconst 0, 1) :: (60, .aload_n 0, 1) :: (61, .getfield 32, 3) :: (64, .iconst 0, 1) :: (65, .bipush 6, 2) :: (67, .invokestatic 46, 3) :: (70, .return_, 1) :: []) (by decide +kernel)
set_option maxRecDepth 100000 in
theorem D_X4_copyFrom : decode cX4_copyFrom 0 = .ok (.aload_n 0, 1) ∧ decode cX4_copyFrom 1 = .ok (.getfield 12, 3) ∧ decode cX4_copyFrom 4 = .ok (.aload_n 1, 1) ∧ decode cX4_copyFrom 5 = .ok (.getfield 12, 3) ∧ decode cX4_copyFrom 8 = .ok (.invokevirtual 52, 3) ∧ decode cX4_copyFrom 11 = .ok (.aload_n 0, 1) ∧ decode cX4_copyFrom 12 = .ok (.getfield 21, 3) ∧ decode cX4_copyFrom 15 = .ok (.aload_n 1, 1) ∧ decode cX4_copyFrom 16 = .ok (.getfield 21, 3) ∧ decode cX4_copyFrom 19 = .ok (.invokevirtual 56, 3) ∧ decode cX4_copyFrom 22 = .ok (.aload_n 0, 1) ∧ decode cX4_copyFrom 23 = .ok (.getfield 28, 3) ∧ decode cX4_copyFrom 26 = .ok (.aload_n 1, 1) ∧ decode cX4_copyFrom 27 = .ok (.getfield 28, 3) ∧ decode cX4_copyFrom 30 = .ok (.invokevirtual 59, 3) ∧ decode cX4_copyFrom 33 = .ok (.aload_n 1, 1) ∧ decode cX4_copyFrom 34 = .ok (.getfield 32, 3) ∧ decode cX4_copyFrom 37 = .ok (.iconst 0, 1) ∧ decode cX4_copyFrom 38 = .ok (.aload_n 0, 1) ∧ decode cX4_copyFrom 39 = .ok (.getfield 32, 3) ∧ decode cX4_copyFrom 42 = .ok (.iconst 0, 1) ∧ decode cX4_copyFrom 43 = .ok (.bipush 6, 2) ∧ decode cX4_copyFrom 45 = .ok (.invokestatic 46, 3) ∧ decode cX4_copyFrom 48 = .ok (.aload_n 0, 1) ∧ decode cX4_copyFrom 49 = .ok (.aload_n 1, 1) ∧ decode cX4_copyFrom 50 = .ok (.getfield 36, 3) ∧ decode cX4_copyFrom 53 = .ok (.putfield 36, 3) ∧ decode cX4_copyFrom 56 = .ok (.aload_n 0, 1) ∧ decode cX4_copyFrom 57 = .ok (.aload_n 1, 1) ∧ decode cX4_copyFrom 58 = .ok (.getfield 62, 3) ∧ decode cX4_copyFrom 61 = .ok (.putfield 62, 3) ∧ decode cX4_copyFrom 64 = .ok (.aload_n 0, 1) ∧ decode cX4_copyFrom 65 = .ok (.aload_n 1, 1) ∧ decode cX4_copyFrom 66 = .ok (.getfield 40, 3) ∧ decode cX4_copyFrom 69 = .ok (.putfield 40, 3) ∧ decode cX4_copyFrom 72 = .ok (.aload_n 0, 1) ∧ decode cX4_copyFrom 73 = .ok (.aload_n 1, 1) ∧ decode cX4_copyFrom 74 = .ok (.getfield 65, 3) ∧ decode cX4_copyFrom 77 = .ok (.putfield 65, 3) ∧ decode cX4_copyFrom 80 = .ok (.aload_n 0, 1) ∧ decode cX4_copyFrom 81 = .ok (.aload_n 1, 1) ∧ decode cX4_copyFrom 82 = .ok (.getfield 68, 3) ∧ decode cX4_copyFrom 85 = .ok (.putfield 68, 3) ∧ decode cX4_copyFrom 88 = .ok (.return_, 1) ∧ True := dq_of (l := (0, .aload_n 0, 1) :: (1, .getfield 12, 3) :: (4, .aload_n 1, 1) :: (5, .getfield 12, 3) :: (8, .invokevirtual 52, 3) :: (11, .aload_n 0, 1) :: (12, .getfield 21, 3) :: (15, .aload_n 1, 1) :: (16, .getfield 21, 3) :: (19, .invokevirtual 56, 3) :: (22, .aload_n 0, 1) :: (23, .getfield 28, 3) :: (26, .aload_n 1, 1) :: (27, .getfield 28, 3) :: (30, .invokevirtual 59, 3) :: (33, .aload_n 1, 1) :: (34, .getfield 32, 3) :: (37, .iconst 0, 1) :: (38, .aload_n 0, 1) :: (39, .getfield 32, 3) :: (42, .iconst 0, 1) :: (43, .bipush 6, 2) :: (45, .invokestatic 46, 3) :: (48, .aload_n 0, 1) :: (49, .aload_n 1, 1) :: (50, .getfield 36, 3) :: (53, .putfield 36, 3) :: (56, .aload_n 0, 1) :: (57, .aload_n 1, 1) :: (58, .getfield 62, 3) :: (61, .putfield 62, 3) :: (64, .aload_n 0, 1) :: (65, .aload_n 1, 1) :: (66, .getfield 40, 3) :: (69, .putfield 40, 3) :: (72, .aload_n 0, 1) :: (73, .aload_n 1, 1) :: (74, .getfield 65, 3) :: (77, .putfield 65, 3) :: (80, .aload_n 0, 1) :: (81, .aload_n 1, 1) :: (82, .getfield 68, 3) :: (85, .putfield 68, 3) :: (88, .return_, 1) :: []) (by decide +kernel)
set_option maxRecDepth 100000 in
theorem D_X4_letGoBy : decode cX4_letGoBy 0 = .ok (.iload_n 1, 1) ∧ decode cX4_letGoBy 1 = .ok (.istore_n 2, 1) ∧ decode cX4_letGoBy 2 = .ok (.iconst 0, 1) ∧ decode cX4_letGoBy 3 = .ok (.istore_n 3, 1) ∧ decode cX4_letGoBy 4 = .ok (.iload_n 3, 1) ∧ decode cX4_letGoBy 5 = .ok (.iload_n 1, 1) ∧ decode cX4_letGoBy 6 = .ok (.if_icmp .ge 53, 3) ∧ decode cX4_letGoBy 9 = .ok (.iload_n 2, 1) ∧ decode cX4_letGoBy 10 = .ok (.ifCond .le 49, 3) ∧ decode cX4_letGoBy 13 = .ok (.aload_n 0, 1) ∧ decode cX4_letGoBy 14 = .ok (.invokevirtual 71, 3) ∧ decode cX4_letGoBy 17 = .ok (.ifCond .ne 14, 3) ∧ decode cX4_letGoBy 20 = .ok (.iload_n 2, 1) ∧ decode cX4_letGoBy 21 = .ok (.aload_n 0, 1) ∧ decode cX4_letGoBy 22 = .ok (.iload_n 2, 1) ∧ decode cX4_letGoBy 23 = .ok (.invokevirtual 75, 3) ∧ decode cX4_letGoBy 26 = .ok (.isub, 1) ∧ decode cX4_letGoBy 27 = .ok (.istore_n 2, 1) ∧ decode cX4_letGoBy 28 = .ok (.goto 25, 3) ∧ decode cX4_letGoBy 31 = .ok (.aload_n 0, 1) ∧ decode cX4_letGoBy 32 = .ok (.getfield 28, 3) ∧ decode cX4_letGoBy 35 = .ok (.bipush 7, 2) ∧ decode cX4_letGoBy 37 = .ok (.iload_n 2, 1) ∧ decode cX4_letGoBy 38 = .ok (.invokevirtual 79, 3) ∧ decode cX4_letGoBy 41 = .ok (.aload_n 0, 1) ∧ decode cX4_letGoBy 42 = .ok (.getfield 28, 3) ∧ decode cX4_letGoBy 45 = .ok (.bipush 8, 2) ∧ decode cX4_letGoBy 47 = .ok (.iload_n 2, 1) ∧ decode cX4_letGoBy 48 = .ok (.invokevirtual 79, 3) ∧ decode cX4_letGoBy 51 = .ok (.iconst 0, 1) ∧ decode cX4_letGoBy 52 = .ok (.istore_n 2, 1) ∧ decode cX4_letGoBy 53 = .ok (.iinc 3 1, 3) ∧ decode cX4_letGoBy 56 = .ok (.goto (-52), 3) ∧ decode cX4_letGoBy 59 = .ok (.return_, 1) ∧ True := dq_of (l := (0, .iload_n 1, 1) :: (1, .istore_n 2, 1) :: (2, .iconst 0, 1) :: (3, .istore_n 3, 1) :: (4, .iload_n 3, 1) :: (5, .iload_n 1, 1) :: (6, .if_icmp .ge 53, 3) :: (9, .iload_n 2, 1) :: (10, .ifCond .le 49, 3) :: (13, .aload_n 0, 1) :: (14, .invokevirtual 71, 3) :: (17, .ifCond .ne 14, 3) :: (20, .iload_n 2, 1) :: (21, .aload_n 0, 1) :: (22, .iload_n 2, 1) :: (23, .invokevirtual 75, 3) :: (26, .isub, 1) :: (27, .istore_n 2, 1) :: (28, .goto 25, 3) :: (31, .aload_n 0, 1) :: (32, .getfield 28, 3) :: (35, .bipush 7, 2) :: (37, .iload_n 2, 1) :: (38, .invokevirtual 79, 3) :: (41, .aload_n 0, 1) :: (42, .getfield 28, 3) :: (45, .bipush 8, 2) :: (47, .iload_n 2, 1) :: (48, .invokevirtual 79, 3) :: (51, .iconst 0, 1) :: (52, .istore_n 2, 1) :: (53, .iinc 3 1, 3) :: (56, .goto (-52), 3) :: (59, .return_, 1) :: []) (by decide +kernel)
set_option maxRecDepth 100000 in
theorem D_X4_ticksUntilGone : decode cX4_ticksUntilGone 0 = .ok (.iconst 0, 1) ∧ decode cX4_ticksUntilGone 1 = .ok (.istore_n 2, 1) ∧ decode cX4_ticksUntilGone 2 = .ok (.iconst 0, 1) ∧ decode cX4_ticksUntilGone 3 = .ok (.istore_n 3, 1) ∧ decode cX4_ticksUntilGone 4 = .ok (.iload_n 3, 1) ∧ decode cX4_ticksUntilGone 5 = .ok (.sipush 20000, 3) ∧ decode cX4_ticksUntilGone 8 = .ok (.if_icmp .ge 70, 3) ∧ decode cX4_ticksUntilGone 11 = .ok (.iload_n 2, 1) ∧ decode cX4_ticksUntilGone 12 = .ok (.sipush 20000, 3) ∧ decode cX4_ticksUntilGone 15 = .ok (.if_icmp .ge 63, 3) ∧ decode cX4_ticksUntilGone 18 = .ok (.aload_n 0, 1) ∧ decode cX4_ticksUntilGone 19 = .ok (.invokevirtual 71, 3) ∧ decode cX4_ticksUntilGone 22 = .ok (.istore 4, 2) ∧ decode cX4_ticksUntilGone 24 = .ok (.aload_n 0, 1) ∧ decode cX4_ticksUntilGone 25 = .ok (.getfield 21, 3) ∧ decode cX4_ticksUntilGone 28 = .ok (.iload_n 1, 1) ∧ decode cX4_ticksUntilGone 29 = .ok (.invokevirtual 83, 3) ∧ decode cX4_ticksUntilGone 32 = .ok (.ifnonnull 7, 3) ∧ decode cX4_ticksUntilGone 35 = .ok (.iload_n 2, 1) ∧ decode cX4_ticksUntilGone 36 = .ok (.iconst 1, 1) ∧ decode cX4_ticksUntilGone 37 = .ok (.iadd, 1) ∧ decode cX4_ticksUntilGone 38 = .ok (.ireturn, 1) ∧ decode cX4_ticksUntilGone 39 = .ok (.iload 4, 2) ∧ decode cX4_ticksUntilGone 41 = .ok (.ifCond .eq 6, 3) ∧ decode cX4_ticksUntilGone 44 = .ok (.bipush (-4), 2) ∧ decode cX4_ticksUntilGone 46 = .ok (.ireturn, 1) ∧ decode cX4_ticksUntilGone 47 = .ok (.iload_n 2, 1) ∧ decode cX4_ticksUntilGone 48 = .ok (.aload_n 0, 1) ∧ decode cX4_ticksUntilGone 49 = .ok (.sipush 20000, 3) ∧ decode cX4_ticksUntilGone 52 = .ok (.iload_n 2, 1) ∧ decode cX4_ticksUntilGone 53 = .ok (.isub, 1) ∧ decode cX4_ticksUntilGone 54 = .ok (.invokevirtual 75, 3) ∧ decode cX4_ticksUntilGone 57 = .ok (.iadd, 1) ∧ decode cX4_ticksUntilGone 58 = .ok (.istore_n 2, 1) ∧ decode cX4_ticksUntilGone 59 = .ok (.aload_n 0, 1) ∧ decode cX4_ticksUntilGone 60 = .ok (.getfield 21, 3) ∧ decode cX4_ticksUntilGone 63 = .ok (.iload_n 1, 1) ∧ decode cX4_ticksUntilGone 64 = .ok (.invokevirtual 83, 3) ∧ decode cX4_ticksUntilGone 67 = .ok (.ifnonnull 5, 3) ∧ decode cX4_ticksUntilGone 70 = .ok (.iload_n 2, 1) ∧ decode cX4_ticksUntilGone 71 = .ok (.ireturn, 1) ∧ decode cX4_ticksUntilGone 72 = .ok (.iinc 3 1, 3) ∧ decode cX4_ticksUntilGone 75 = .ok (.goto (-71), 3) ∧ decode cX4_ticksUntilGone 78 = .ok (.bipush (-4), 2) ∧ decode cX4_ticksUntilGone 80 = .ok (.ireturn, 1) ∧ True := dq_of (l := (0, .iconst 0, 1) :: (1, .istore_n 2, 1) :: (2, .iconst 0, 1) :: (3, .istore_n 3, 1) :: (4, .iload_n 3, 1) :: (5, .sipush 20000, 3) :: (8, .if_icmp .ge 70, 3) :: (11, .iload_n 2, 1) :: (12, .sipush 20000, 3) :: (15, .if_icmp .ge 63, 3) :: (18, .aload_n 0, 1) :: (19, .invokevirtual 71, 3) :: (22, .istore 4, 2) :: (24, .aload_n 0, 1) :: (25, .getfield 21, 3) :: (28, .iload_n 1, 1) :: (29, .invokevirtual 83, 3) :: (32, .ifnonnull 7, 3) :: (35, .iload_n 2, 1) :: (36, .iconst 1, 1) :: (37, .iadd, 1) :: (38, .ireturn, 1) :: (39, .iload 4, 2) :: (41, .ifCond .eq 6, 3) :: (44, .bipush (-4), 2) :: (46, .ireturn, 1) :: (47, .iload_n 2, 1) :: (48, .aload_n 0, 1) :: (49, .sipush 20000, 3) :: (52, .iload_n 2, 1) :: (53, .isub, 1) :: (54, .invokevirtual 75, 3) :: (57, .iadd, 1) :: (58, .istore_n 2, 1) :: (59, .aload_n 0, 1) :: (60, .getfield 21, 3) :: (63, .iload_n 1, 1) :: (64, .invokevirtual 83, 3) :: (67, .ifnonnull 5, 3) :: (70, .iload_n 2, 1) :: (71, .ireturn, 1) :: (72, .iinc 3 1, 3) :: (75, .goto (-71), 3) :: (78, .bipush (-4), 2) :: (80, .ireturn, 1) :: []) (by decide +kernel)
set_option maxRecDepth 100000 in
theorem D_X4_findWork : decode cX4_findWork 0 = .ok (.iconst 0, 1) ∧ decode cX4_findWork 1 = .ok (.istore_n 1, 1) ∧ decode cX4_findWork 2 = .ok (.aload_n 0, 1) ∧ decode cX4_findWork 3 = .ok (.getfield 40, 3) ∧ decode cX4_findWork 6 = .ok (.ifCond .ne 62, 3) ∧ decode cX4_findWork 9 = .ok (.iload_n 1, 1) ∧ decode cX4_findWork 10 = .ok (.sipush 500, 3) ∧ decode cX4_findWork 13 = .ok (.if_icmp .gt 55, 3) ∧ decode cX4_findWork 16 = .ok (.aload_n 0, 1) ∧ decode cX4_findWork 17 = .ok (.getfield 21, 3) ∧ decode cX4_findWork 20 = .ok (.invokevirtual 87, 3) ∧ decode cX4_findWork 23 = .ok (.astore_n 2, 1) ∧ decode cX4_findWork 24 = .ok (.aload_n 2, 1) ∧ decode cX4_findWork 25 = .ok (.ifnonnull 5, 3) ∧ decode cX4_findWork 28 = .ok (.iconst 1, 1) ∧ decode cX4_findWork 29 = .ok (.ireturn, 1) ∧ decode cX4_findWork 30 = .ok (.aload_n 0, 1) ∧ decode cX4_findWork 31 = .ok (.aload_n 2, 1) ∧ decode cX4_findWork 32 = .ok (.invokevirtual 91, 3) ∧ decode cX4_findWork 35 = .ok (.istore_n 3, 1) ∧ decode cX4_findWork 36 = .ok (.iload_n 3, 1) ∧ decode cX4_findWork 37 = .ok (.ifCond .eq 5, 3) ∧ decode cX4_findWork 40 = .ok (.iload_n 3, 1) ∧ decode cX4_findWork 41 = .ok (.ireturn, 1) ∧ decode cX4_findWork 42 = .ok (.aload_n 2, 1) ∧ decode cX4_findWork 43 = .ok (.invokevirtual 95, 3) ∧ decode cX4_findWork 46 = .ok (.ifCond .eq 11, 3) ∧ decode cX4_findWork 49 = .ok (.aload_n 0, 1) ∧ decode cX4_findWork 50 = .ok (.aload_n 2, 1) ∧ decode cX4_findWork 51 = .ok (.invokevirtual 101, 3) ∧ decode cX4_findWork 54 = .ok (.goto 8, 3) ∧ decode cX4_findWork 57 = .ok (.aload_n 0, 1) ∧ decode cX4_findWork 58 = .ok (.aload_n 2, 1) ∧ decode cX4_findWork 59 = .ok (.invokevirtual 105, 3) ∧ decode cX4_findWork 62 = .ok (.iinc 1 1, 3) ∧ decode cX4_findWork 65 = .ok (.goto (-63), 3) ∧ decode cX4_findWork 68 = .ok (.iconst 0, 1) ∧ decode cX4_findWork 69 = .ok (.ireturn, 1) ∧ True := dq_of (l := (0, .iconst 0, 1) :: (1, .istore_n 1, 1) :: (2, .aload_n 0, 1) :: (3, .getfield 40, 3) :: (6, .ifCond .ne 62, 3) :: (9, .iload_n 1, 1) :: (10, .sipush 500, 3) :: (13, .if_icmp .gt 55, 3) :: (16, .aload_n 0, 1) :: (17, .getfield 21, 3) :: (20, .invokevirtual 87, 3) :: (23, .astore_n 2, 1) :: (24, .aload_n 2, 1) :: (25, .ifnonnull 5, 3) :: (28, .iconst 1, 1) :: (29, .ireturn, 1) :: (30, .aload_n 0, 1) :: (31, .aload_n 2, 1) :: (32, .invokevirtual 91, 3) :: (35, .istore_n 3, 1) :: (36, .iload_n 3, 1) :: (37, .ifCond .eq 5, 3) :: (40, .iload_n 3, 1) :: (41, .ireturn, 1) :: (42, .aload_n 2, 1) :: (43, .invokevirtual 95, 3) :: (46, .ifCond .eq 11, 3) :: (49, .aload_n 0, 1) :: (50, .aload_n 2, 1) :: (51, .invokevirtual 101, 3) :: (54, .goto 8, 3) :: (57, .aload_n 0, 1) :: (58, .aload_n 2, 1) :: (59, .invokevirtual 105, 3) :: (62, .iinc 1 1, 3) :: (65, .goto (-63), 3) :: (68, .iconst 0, 1) :: (69, .ireturn, 1) :: []) (by decide +kernel)
set_option maxRecDepth 100000 in
theorem D_X4_stopReason : decode cX4_stopReason 0 = .ok (.aload_n 1, 1) ∧ decode cX4_stopReason 1 = .ok (.invokevirtual 95, 3) ∧ decode cX4_stopReason 4 = .ok (.ifCond .eq 20, 3) ∧ decode cX4_stopReason 7 = .ok (.aload_n 0, 1) ∧ decode cX4_stopReason 8 = .ok (.getfield 36, 3) ∧ decode cX4_stopReason 11 = .ok (.aload_n 1, 1) ∧ decode cX4_stopReason 12 = .ok (.getfield 108, 3) ∧ decode cX4_stopReason 15 = .ok (.if_icmp .ge 7, 3) ∧ decode cX4_stopReason 18 = .ok (.iconst 4, 1) ∧ decode cX4_stopReason 19 = .ok (.goto 4, 3) ∧ decode cX4_stopReason 22 = .ok (.iconst 0, 1) ∧ decode cX4_stopReason 23 = .ok (.ireturn, 1) ∧ decode cX4_stopReason 24 = .ok (.aload_n 0, 1) ∧ decode cX4_stopReason 25 = .ok (.getfield 12, 3) ∧ decode cX4_stopReason 28 = .ok (.aload_n 1, 1) ∧ decode cX4_stopReason 29 = .ok (.getfield 111, 3) ∧ decode cX4_stopReason 32 = .ok (.aload_n 1, 1) ∧ decode cX4_stopReason 33 = .ok (.getfield 114, 3) ∧ decode cX4_stopReason 36 = .ok (.invokevirtual 117, 3) ∧ decode cX4_stopReason 39 = .ok (.iconst (-1), 1) ∧ decode cX4_stopReason 40 = .ok (.if_icmp .ne 5, 3) ∧ decode cX4_stopReason 43 = .ok (.iconst 2, 1) ∧ decode cX4_stopReason 44 = .ok (.ireturn, 1) ∧ decode cX4_stopReason 45 = .ok (.aload_n 0, 1) ∧ decode cX4_stopReason 46 = .ok (.getfield 62, 3) ∧ decode cX4_stopReason 49 = .ok (.aload_n 0, 1) ∧ decode cX4_stopReason 50 = .ok (.getfield 32, 3) ∧ decode cX4_stopReason 53 = .ok (.iconst 5, 1) ∧ decode cX4_stopReason 54 = .ok (.iaload, 1) ∧ decode cX4_stopReason 55 = .ok (.if_icmp .lt 7, 3) ∧ decode cX4_stopReason 58 = .ok (.iconst 3, 1) ∧ decode cX4_stopReason 59 = .ok (.goto 4, 3) ∧ decode cX4_stopReason 62 = .ok (.iconst 0, 1) ∧ decode cX4_stopReason 63 = .ok (.ireturn, 1) ∧ True := dq_of (l := (0, .aload_n 1, 1) :: (1, .invokevirtual 95, 3) :: (4, .ifCond .eq 20, 3) :: (7, .aload_n 0, 1) :: (8, .getfield 36, 3) :: (11, .aload_n 1, 1) :: (12, .getfield 108, 3) :: (15, .if_icmp .ge 7, 3) :: (18, .iconst 4, 1) :: (19, .goto 4, 3) :: (22, .iconst 0, 1) :: (23, .ireturn, 1) :: (24, .aload_n 0, 1) :: (25, .getfield 12, 3) :: (28, .aload_n 1, 1) :: (29, .getfield 111, 3) :: (32, .aload_n 1, 1) :: (33, .getfield 114, 3) :: (36, .invokevirtual 117, 3) :: (39, .iconst (-1), 1) :: (40, .if_icmp .ne 5, 3) :: (43, .iconst 2, 1) :: (44, .ireturn, 1) :: (45, .aload_n 0, 1) :: (46, .getfield 62, 3) :: (49, .aload_n 0, 1) :: (50, .getfield 32, 3) :: (53, .iconst 5, 1) :: (54, .iaload, 1) :: (55, .if_icmp .lt 7, 3) :: (58, .iconst 3, 1) :: (59, .goto 4, 3) :: (62, .iconst 0, 1) :: (63, .ireturn, 1) :: []) (by decide +kernel)
set_option maxRecDepth 100000 in
theorem D_X4_beginSheet : decode cX4_beginSheet 0 = .ok (.aload_n 0, 1) ∧ decode cX4_beginSheet 1 = .ok (.getfield 12, 3) ∧ decode cX4_beginSheet 4 = .ok (.aload_n 1, 1) ∧ decode cX4_beginSheet 5 = .ok (.getfield 111, 3) ∧ decode cX4_beginSheet 8 = .ok (.aload_n 1, 1) ∧ decode cX4_beginSheet 9 = .ok (.getfield 114, 3) ∧ decode cX4_beginSheet 12 = .ok (.invokevirtual 121, 3) ∧ decode cX4_beginSheet 15 = .ok (.aload_n 0, 1) ∧ decode cX4_beginSheet 16 = .ok (.getfield 28, 3) ∧ decode cX4_beginSheet 19 = .ok (.aload_n 1, 1) ∧ decode cX4_beginSheet 20 = .ok (.getfield 111, 3) ∧ decode cX4_beginSheet 23 = .ok (.aload_n 1, 1) ∧ decode cX4_beginSheet 24 = .ok (.getfield 114, 3) ∧ decode cX4_beginSheet 27 = .ok (.invokevirtual 124, 3) ∧ decode cX4_beginSheet 30 = .ok (.aload_n 0, 1) ∧ decode cX4_beginSheet 31 = .ok (.getfield 21, 3) ∧ decode cX4_beginSheet 34 = .ok (.aload_n 1, 1) ∧ decode cX4_beginSheet 35 = .ok (.getfield 127, 3) ∧ decode cX4_beginSheet 38 = .ok (.putfield 130, 3) ∧ decode cX4_beginSheet 41 = .ok (.aload_n 1, 1) ∧ decode cX4_beginSheet 42 = .ok (.invokevirtual 133, 3) ∧ decode cX4_beginSheet 45 = .ok (.istore_n 2, 1) ∧ decode cX4_beginSheet 46 = .ok (.aload_n 0, 1) ∧ decode cX4_beginSheet 47 = .ok (.iconst 1, 1) ∧ decode cX4_beginSheet 48 = .ok (.putfield 40, 3) ∧ decode cX4_beginSheet 51 = .ok (.aload_n 0, 1) ∧ decode cX4_beginSheet 52 = .ok (.aload_n 1, 1) ∧ decode cX4_beginSheet 53 = .ok (.getfield 127, 3) ∧ decode cX4_beginSheet 56 = .ok (.putfield 65, 3) ∧ decode cX4_beginSheet 59 = .ok (.aload_n 0, 1) ∧ decode cX4_beginSheet 60 = .ok (.iload_n 2, 1) ∧ decode cX4_beginSheet 61 = .ok (.aload_n 0, 1) ∧ decode cX4_beginSheet 62 = .ok (.getfield 32, 3) ∧ decode cX4_beginSheet 65 = .ok (.iconst 0, 1) ∧ decode cX4_beginSheet 66 = .ok (.iaload, 1) ∧ decode cX4_beginSheet 67 = .ok (.imul, 1) ∧ decode cX4_beginSheet 68 = .ok (.iload_n 2, 1) ∧ decode cX4_beginSheet 69 = .ok (.iconst 2, 1) ∧ decode cX4_beginSheet 70 = .ok (.if_icmp .ne 12, 3) ∧ decode cX4_beginSheet 73 = .ok (.aload_n 0, 1) ∧ decode cX4_beginSheet 74 = .ok (.getfield 32, 3) ∧ decode cX4_beginSheet 77 = .ok (.iconst 1, 1) ∧ decode cX4_beginSheet 78 = .ok (.iaload, 1) ∧ decode cX4_beginSheet 79 = .ok (.goto 4, 3) ∧ decode cX4_beginSheet 82 = .ok (.iconst 0, 1) ∧ decode cX4_beginSheet 83 = .ok (.iadd, 1) ∧ decode cX4_beginSheet 84 = .ok (.putfield 68, 3) ∧ decode cX4_beginSheet 87 = .ok (.return_, 1) ∧ True := dq_of (l := (0, .aload_n 0, 1) :: (1, .getfield 12, 3) :: (4, .aload_n 1, 1) :: (5, .getfield 111, 3) :: (8, .aload_n 1, 1) :: (9, .getfield 114, 3) :: (12, .invokevirtual 121, 3) :: (15, .aload_n 0, 1) :: (16, .getfield 28, 3) :: (19, .aload_n 1, 1) :: (20, .getfield 111, 3) :: (23, .aload_n 1, 1) :: (24, .getfield 114, 3) :: (27, .invokevirtual 124, 3) :: (30, .aload_n 0, 1) :: (31, .getfield 21, 3) :: (34, .aload_n 1, 1) :: (35, .getfield 127, 3) :: (38, .putfield 130, 3) :: (41, .aload_n 1, 1) :: (42, .invokevirtual 133, 3) :: (45, .istore_n 2, 1) :: (46, .aload_n 0, 1) :: (47, .iconst 1, 1) :: (48, .putfield 40, 3) :: (51, .aload_n 0, 1) :: (52, .aload_n 1, 1) :: (53, .getfield 127, 3) :: (56, .putfield 65, 3) :: (59, .aload_n 0, 1) :: (60, .iload_n 2, 1) :: (61, .aload_n 0, 1) :: (62, .getfield 32, 3) :: (65, .iconst 0, 1) :: (66, .iaload, 1) :: (67, .imul, 1) :: (68, .iload_n 2, 1) :: (69, .iconst 2, 1) :: (70, .if_icmp .ne 12, 3) :: (73, .aload_n 0, 1) :: (74, .getfield 32, 3) :: (77, .iconst 1, 1) :: (78, .iaload, 1) :: (79, .goto 4, 3) :: (82, .iconst 0, 1) :: (83, .iadd, 1) :: (84, .putfield 68, 3) :: (87, .return_, 1) :: []) (by decide +kernel)
set_option maxRecDepth 100000 in
theorem D_X4_beginStapling : decode cX4_beginStapling 0 = .ok (.aload_n 0, 1) ∧ decode cX4_beginStapling 1 = .ok (.getfield 32, 3) ∧ decode cX4_beginStapling 4 = .ok (.iconst 2, 1) ∧ decode cX4_beginStapling 5 = .ok (.iaload, 1) ∧ decode cX4_beginStapling 6 = .ok (.ifCond .ne 9, 3) ∧ decode cX4_beginStapling 9 = .ok (.aload_n 0, 1) ∧ decode cX4_beginStapling 10 = .ok (.aload_n 1, 1) ∧ decode cX4_beginStapling 11 = .ok (.invokevirtual 136, 3) ∧ decode cX4_beginStapling 14 = .ok (.return_, 1) ∧ decode cX4_beginStapling 15 = .ok (.aload_n 0, 1) ∧ decode cX4_beginStapling 16 = .ok (.iconst 2, 1) ∧ decode cX4_beginStapling 17 = .ok (.putfield 40, 3) ∧ decode cX4_beginStapling 20 = .ok (.aload_n 0, 1) ∧ decode cX4_beginStapling 21 = .ok (.aload_n 1, 1) ∧ decode cX4_beginStapling 22 = .ok (.getfield 127, 3) ∧ decode cX4_beginStapling 25 = .ok (.putfield 65, 3) ∧ decode cX4_beginStapling 28 = .ok (.aload_n 0, 1) ∧ decode cX4_beginStapling 29 = .ok (.aload_n 0, 1) ∧ decode cX4_beginStapling 30 = .ok (.getfield 32, 3) ∧ decode cX4_beginStapling 33 = .ok (.iconst 2, 1) ∧ decode cX4_beginStapling 34 = .ok (.iaload, 1) ∧ decode cX4_beginStapling 35 = .ok (.putfield 68, 3) ∧ decode cX4_beginStapling 38 = .ok (.return_, 1) ∧ True := dq_of (l := (0, .aload_n 0, 1) :: (1, .getfield 32, 3) :: (4, .iconst 2, 1) :: (5, .iaload, 1) :: (6, .ifCond .ne 9, 3) :: (9, .aload_n 0, 1) :: (10, .aload_n 1, 1) :: (11, .invokevirtual 136, 3) :: (14, .return_, 1) :: (15, .aload_n 0, 1) :: (16, .iconst 2, 1) :: (17, .putfield 40, 3) :: (20, .aload_n 0, 1) :: (21, .aload_n 1, 1) :: (22, .getfield 127, 3) :: (25, .putfield 65, 3) :: (28, .aload_n 0, 1) :: (29, .aload_n 0, 1) :: (30, .getfield 32, 3) :: (33, .iconst 2, 1) :: (34, .iaload, 1) :: (35, .putfield 68, 3) :: (38, .return_, 1) :: []) (by decide +kernel)
set_option maxRecDepth 100000 in
theorem D_X4_goOnWorking : decode cX4_goOnWorking 0 = .ok (.iload_n 1, 1) ∧ decode cX4_goOnWorking 1 = .ok (.aload_n 0, 1) ∧ decode cX4_goOnWorking 2 = .ok (.getfield 68, 3) ∧ decode cX4_goOnWorking 5 = .ok (.invokestatic 139, 3) ∧ decode cX4_goOnWorking 8 = .ok (.istore_n 2, 1) ∧ decode cX4_goOnWorking 9 = .ok (.aload_n 0, 1) ∧ decode cX4_goOnWorking 10 = .ok (.dup, 1) ∧ decode cX4_goOnWorking 11 = .ok (.getfield 68, 3) ∧ decode cX4_goOnWorking 14 = .ok (.iload_n 2, 1) ∧ decode cX4_goOnWorking 15 = .ok (.isub, 1) ∧ decode cX4_goOnWorking 16 = .ok (.putfield 68, 3) ∧ decode cX4_goOnWorking 19 = .ok (.aload_n 0, 1) ∧ decode cX4_goOnWorking 20 = .ok (.getfield 28, 3) ∧ decode cX4_goOnWorking 23 = .ok (.bipush 8, 2) ∧ decode cX4_goOnWorking 25 = .ok (.iload_n 2, 1) ∧ decode cX4_goOnWorking 26 = .ok (.invokevirtual 79, 3) ∧ decode cX4_goOnWorking 29 = .ok (.aload_n 0, 1) ∧ decode cX4_goOnWorking 30 = .ok (.getfield 68, 3) ∧ decode cX4_goOnWorking 33 = .ok (.ifCond .ne 7, 3) ∧ decode cX4_goOnWorking 36 = .ok (.aload_n 0, 1) ∧ decode cX4_goOnWorking 37 = .ok (.invokevirtual 144, 3) ∧ decode cX4_goOnWorking 40 = .ok (.iload_n 2, 1) ∧ decode cX4_goOnWorking 41 = .ok (.ireturn, 1) ∧ True := dq_of (l := (0, .iload_n 1, 1) :: (1, .aload_n 0, 1) :: (2, .getfield 68, 3) :: (5, .invokestatic 139, 3) :: (8, .istore_n 2, 1) :: (9, .aload_n 0, 1) :: (10, .dup, 1) :: (11, .getfield 68, 3) :: (14, .iload_n 2, 1) :: (15, .isub, 1) :: (16, .putfield 68, 3) :: (19, .aload_n 0, 1) :: (20, .getfield 28, 3) :: (23, .bipush 8, 2) :: (25, .iload_n 2, 1) :: (26, .invokevirtual 79, 3) :: (29, .aload_n 0, 1) :: (30, .getfield 68, 3) :: (33, .ifCond .ne 7, 3) :: (36, .aload_n 0, 1) :: (37, .invokevirtual 144, 3) :: (40, .iload_n 2, 1) :: (41, .ireturn, 1) :: []) (by decide +kernel)
set_option maxRecDepth 100000 in
theorem D_X4_finishWork : decode cX4_finishWork 0 = .ok (.aload_n 0, 1) ∧ decode cX4_finishWork 1 = .ok (.getfield 21, 3) ∧ decode cX4_finishWork 4 = .ok (.aload_n 0, 1) ∧ decode cX4_finishWork 5 = .ok (.getfield 65, 3) ∧ decode cX4_finishWork 8 = .ok (.invokevirtual 83, 3) ∧ decode cX4_finishWork 11 = .ok (.astore_n 1, 1) ∧ decode cX4_finishWork 12 = .ok (.aload_n 0, 1) ∧ decode cX4_finishWork 13 = .ok (.getfield 40, 3) ∧ decode cX4_finishWork 16 = .ok (.istore_n 2, 1) ∧ decode cX4_finishWork 17 = .ok (.aload_n 0, 1) ∧ decode cX4_finishWork 18 = .ok (.iconst 0, 1) ∧ decode cX4_finishWork 19 = .ok (.putfield 40, 3) ∧ decode cX4_finishWork 22 = .ok (.aload_n 1, 1) ∧ decode cX4_finishWork 23 = .ok (.ifnonnull 4, 3) ∧ decode cX4_finishWork 26 = .ok (.return_, 1) ∧ decode cX4_finishWork 27 = .ok (.iload_n 2, 1) ∧ decode cX4_finishWork 28 = .ok (.iconst 1, 1) ∧ decode cX4_finishWork 29 = .ok (.if_icmp .ne 11, 3) ∧ decode cX4_finishWork 32 = .ok (.aload_n 0, 1) ∧ decode cX4_finishWork 33 = .ok (.aload_n 1, 1) ∧ decode cX4_finishWork 34 = .ok (.invokevirtual 147, 3) ∧ decode cX4_finishWork 37 = .ok (.goto 13, 3) ∧ decode cX4_finishWork 40 = .ok (.iload_n 2, 1) ∧ decode cX4_finishWork 41 = .ok (.iconst 2, 1) ∧ decode cX4_finishWork 42 = .ok (.if_icmp .ne 8, 3) ∧ decode cX4_finishWork 45 = .ok (.aload_n 0, 1) ∧ decode cX4_finishWork 46 = .ok (.aload_n 1, 1) ∧ decode cX4_finishWork 47 = .ok (.invokevirtual 136, 3) ∧ decode cX4_finishWork 50 = .ok (.return_, 1) ∧ True := dq_of (l := (0, .aload_n 0, 1) :: (1, .getfield 21, 3) :: (4, .aload_n 0, 1) :: (5, .getfield 65, 3) :: (8, .invokevirtual 83, 3) :: (11, .astore_n 1, 1) :: (12, .aload_n 0, 1) :: (13, .getfield 40, 3) :: (16, .istore_n 2, 1) :: (17, .aload_n 0, 1) :: (18, .iconst 0, 1) :: (19, .putfield 40, 3) :: (22, .aload_n 1, 1) :: (23, .ifnonnull 4, 3) :: (26, .return_, 1) :: (27, .iload_n 2, 1) :: (28, .iconst 1, 1) :: (29, .if_icmp .ne 11, 3) :: (32, .aload_n 0, 1) :: (33, .aload_n 1, 1) :: (34, .invokevirtual 147, 3) :: (37, .goto 13, 3) :: (40, .iload_n 2, 1) :: (41, .iconst 2, 1) :: (42, .if_icmp .ne 8, 3) :: (45, .aload_n 0, 1) :: (46, .aload_n 1, 1) :: (47, .invokevirtual 136, 3) :: (50, .return_, 1) :: []) (by decide +kernel)
set_option maxRecDepth 100000 in
theorem D_X4_finishSheet : decode cX4_finishSheet 0 = .ok (.aload_n 0, 1) ∧ decode cX4_finishSheet 1 = .ok (.getfield 28, 3) ∧ decode cX4_finishSheet 4 = .ok (.dup, 1) ∧ decode cX4_finishSheet 5 = .ok (.getfield 150, 3) ∧ decode cX4_finishSheet 8 = .ok (.iconst 1, 1) ∧ decode cX4_finishSheet 9 = .ok (.iadd, 1) ∧ decode cX4_finishSheet 10 = .ok (.putfield 150, 3) ∧ decode cX4_finishSheet 13 = .ok (.aload_n 0, 1) ∧ decode cX4_finishSheet 14 = .ok (.getfield 32, 3) ∧ decode cX4_finishSheet 17 = .ok (.iconst 4, 1) ∧ decode cX4_finishSheet 18 = .ok (.iaload, 1) ∧ decode cX4_finishSheet 19 = .ok (.istore_n 2, 1) ∧ decode cX4_finishSheet 20 = .ok (.iload_n 2, 1) ∧ decode cX4_finishSheet 21 = .ok (.ifCond .le 25, 3) ∧ decode cX4_finishSheet 24 = .ok (.aload_n 0, 1) ∧ decode cX4_finishSheet 25 = .ok (.getfield 28, 3) ∧ decode cX4_finishSheet 28 = .ok (.getfield 150, 3) ∧ decode cX4_finishSheet 31 = .ok (.iload_n 2, 1) ∧ decode cX4_finishSheet 32 = .ok (.irem, 1) ∧ decode cX4_finishSheet 33 = .ok (.ifCond .ne 13, 3) ∧ decode cX4_finishSheet 36 = .ok (.aload_n 0, 1) ∧ decode cX4_finishSheet 37 = .ok (.getfield 28, 3) ∧ decode cX4_finishSheet 40 = .ok (.iconst 2, 1) ∧ decode cX4_finishSheet 41 = .ok (.iconst 1, 1) ∧ decode cX4_finishSheet 42 = .ok (.invokevirtual 79, 3) ∧ decode cX4_finishSheet 45 = .ok (.return_, 1) ∧ decode cX4_finishSheet 46 = .ok (.aload_n 0, 1) ∧ decode cX4_finishSheet 47 = .ok (.getfield 28, 3) ∧ decode cX4_finishSheet 50 = .ok (.iconst 1, 1) ∧ decode cX4_finishSheet 51 = .ok (.iconst 1, 1) ∧ decode cX4_finishSheet 52 = .ok (.invokevirtual 79, 3) ∧ decode cX4_finishSheet 55 = .ok (.aload_n 0, 1) ∧ decode cX4_finishSheet 56 = .ok (.getfield 28, 3) ∧ decode cX4_finishSheet 59 = .ok (.iconst 3, 1) ∧ decode cX4_finishSheet 60 = .ok (.aload_n 1, 1) ∧ decode cX4_finishSheet 61 = .ok (.invokevirtual 133, 3) ∧ decode cX4_finishSheet 64 = .ok (.invokevirtual 79, 3) ∧ decode cX4_finishSheet 67 = .ok (.aload_n 0, 1) ∧ decode cX4_finishSheet 68 = .ok (.dup, 1) ∧ decode cX4_finishSheet 69 = .ok (.getfield 62, 3) ∧ decode cX4_finishSheet 72 = .ok (.iconst 1, 1) ∧ decode cX4_finishSheet 73 = .ok (.iadd, 1) ∧ decode cX4_finishSheet 74 = .ok (.putfield 62, 3) ∧ decode cX4_finishSheet 77 = .ok (.aload_n 1, 1) ∧ decode cX4_finishSheet 78 = .ok (.dup, 1) ∧ decode cX4_finishSheet 79 = .ok (.getfield 153, 3) ∧ decode cX4_finishSheet 82 = .ok (.iconst 1, 1) ∧ decode cX4_finishSheet 83 = .ok (.iadd, 1) ∧ decode cX4_finishSheet 84 = .ok (.putfield 153, 3) ∧ decode cX4_finishSheet 87 = .ok (.aload_n 0, 1) ∧ decode cX4_finishSheet 88 = .ok (.aload_n 1, 1) ∧ decode cX4_finishSheet 89 = .ok (.invokevirtual 156, 3) ∧ decode cX4_finishSheet 92 = .ok (.return_, 1) ∧ True := dq_of (l := (0, .aload_n 0, 1) :: (1, .getfield 28, 3) :: (4, .dup, 1) :: (5, .getfield 150, 3) :: (8, .iconst 1, 1) :: (9, .iadd, 1) :: (10, .putfield 150, 3) :: (13, .aload_n 0, 1) :: (14, .getfield 32, 3) :: (17, .iconst 4, 1) :: (18, .iaload, 1) :: (19, .istore_n 2, 1) :: (20, .iload_n 2, 1) :: (21, .ifCond .le 25, 3) :: (24, .aload_n 0, 1) :: (25, .getfield 28, 3) :: (28, .getfield 150, 3) :: (31, .iload_n 2, 1) :: (32, .irem, 1) :: (33, .ifCond .ne 13, 3) :: (36, .aload_n 0, 1) :: (37, .getfield 28, 3) :: (40, .iconst 2, 1) :: (41, .iconst 1, 1) :: (42, .invokevirtual 79, 3) :: (45, .return_, 1) :: (46, .aload_n 0, 1) :: (47, .getfield 28, 3) :: (50, .iconst 1, 1) :: (51, .iconst 1, 1) :: (52, .invokevirtual 79, 3) :: (55, .aload_n 0, 1) :: (56, .getfield 28, 3) :: (59, .iconst 3, 1) :: (60, .aload_n 1, 1) :: (61, .invokevirtual 133, 3) :: (64, .invokevirtual 79, 3) :: (67, .aload_n 0, 1) :: (68, .dup, 1) :: (69, .getfield 62, 3) :: (72, .iconst 1, 1) :: (73, .iadd, 1) :: (74, .putfield 62, 3) :: (77, .aload_n 1, 1) :: (78, .dup, 1) :: (79, .getfield 153, 3) :: (82, .iconst 1, 1) :: (83, .iadd, 1) :: (84, .putfield 153, 3) :: (87, .aload_n 0, 1) :: (88, .aload_n 1, 1) :: (89, .invokevirtual 156, 3) :: (92, .return_, 1) :: []) (by decide +kernel)
set_option maxRecDepth 100000 in
theorem D_X4_finishStapling : decode cX4_finishStapling 0 = .ok (.aload_n 0, 1) ∧ decode cX4_finishStapling 1 = .ok (.getfield 36, 3) ∧ decode cX4_finishStapling 4 = .ok (.aload_n 1, 1) ∧ decode cX4_finishStapling 5 = .ok (.getfield 108, 3) ∧ decode cX4_finishStapling 8 = .ok (.invokestatic 139, 3) ∧ decode cX4_finishStapling 11 = .ok (.istore_n 2, 1) ∧ decode cX4_finishStapling 12 = .ok (.aload_n 0, 1) ∧ decode cX4_finishStapling 13 = .ok (.dup, 1) ∧ decode cX4_finishStapling 14 = .ok (.getfield 36, 3) ∧ decode cX4_finishStapling 17 = .ok (.iload_n 2, 1) ∧ decode cX4_finishStapling 18 = .ok (.isub, 1) ∧ decode cX4_finishStapling 19 = .ok (.putfield 36, 3) ∧ decode cX4_finishStapling 22 = .ok (.aload_n 0, 1) ∧ decode cX4_finishStapling 23 = .ok (.getfield 28, 3) ∧ decode cX4_finishStapling 26 = .ok (.iconst 4, 1) ∧ decode cX4_finishStapling 27 = .ok (.iload_n 2, 1) ∧ decode cX4_finishStapling 28 = .ok (.invokevirtual 79, 3) ∧ decode cX4_finishStapling 31 = .ok (.aload_n 1, 1) ∧ decode cX4_finishStapling 32 = .ok (.dup, 1) ∧ decode cX4_finishStapling 33 = .ok (.getfield 159, 3) ∧ decode cX4_finishStapling 36 = .ok (.iconst 1, 1) ∧ decode cX4_finishStapling 37 = .ok (.iadd, 1) ∧ decode cX4_finishStapling 38 = .ok (.putfield 159, 3) ∧ decode cX4_finishStapling 41 = .ok (.aload_n 0, 1) ∧ decode cX4_finishStapling 42 = .ok (.aload_n 1, 1) ∧ decode cX4_finishStapling 43 = .ok (.invokevirtual 156, 3) ∧ decode cX4_finishStapling 46 = .ok (.return_, 1) ∧ True := dq_of (l := (0, .aload_n 0, 1) :: (1, .getfield 36, 3) :: (4, .aload_n 1, 1) :: (5, .getfield 108, 3) :: (8, .invokestatic 139, 3) :: (11, .istore_n 2, 1) :: (12, .aload_n 0, 1) :: (13, .dup, 1) :: (14, .getfield 36, 3) :: (17, .iload_n 2, 1) :: (18, .isub, 1) :: (19, .putfield 36, 3) :: (22, .aload_n 0, 1) :: (23, .getfield 28, 3) :: (26, .iconst 4, 1) :: (27, .iload_n 2, 1) :: (28, .invokevirtual 79, 3) :: (31, .aload_n 1, 1) :: (32, .dup, 1) :: (33, .getfield 159, 3) :: (36, .iconst 1, 1) :: (37, .iadd, 1) :: (38, .putfield 159, 3) :: (41, .aload_n 0, 1) :: (42, .aload_n 1, 1) :: (43, .invokevirtual 156, 3) :: (46, .return_, 1) :: []) (by decide +kernel)
set_option maxRecDepth 100000 in
theorem D_X4_removeIfFinished : decode cX4_removeIfFinished 0 = .ok (.aload_n 1, 1) ∧ decode cX4_removeIfFinished 1 = .ok (.invokevirtual 162, 3) ∧ decode cX4_removeIfFinished 4 = .ok (.ifCond .eq 20, 3) ∧ decode cX4_removeIfFinished 7 = .ok (.aload_n 0, 1) ∧ decode cX4_removeIfFinished 8 = .ok (.getfield 28, 3) ∧ decode cX4_removeIfFinished 11 = .ok (.iconst 5, 1) ∧ decode cX4_removeIfFinished 12 = .ok (.iconst 1, 1) ∧ decode cX4_removeIfFinished 13 = .ok (.invokevirtual 79, 3) ∧ decode cX4_removeIfFinished 16 = .ok (.aload_n 0, 1) ∧ decode cX4_removeIfFinished 17 = .ok (.getfield 21, 3) ∧ decode cX4_removeIfFinished 20 = .ok (.aload_n 1, 1) ∧ decode cX4_removeIfFinished 21 = .ok (.invokevirtual 165, 3) ∧ decode cX4_removeIfFinished 24 = .ok (.return_, 1) ∧ True := dq_of (l := (0, .aload_n 1, 1) :: (1, .invokevirtual 162, 3) :: (4, .ifCond .eq 20, 3) :: (7, .aload_n 0, 1) :: (8, .getfield 28, 3) :: (11, .iconst 5, 1) :: (12, .iconst 1, 1) :: (13, .invokevirtual 79, 3) :: (16, .aload_n 0, 1) :: (17, .getfield 21, 3) :: (20, .aload_n 1, 1) :: (21, .invokevirtual 165, 3) :: (24, .return_, 1) :: []) (by decide +kernel)
set_option maxRecDepth 100000 in
theorem D_X4_interrupt : decode cX4_interrupt 0 = .ok (.aload_n 0, 1) ∧ decode cX4_interrupt 1 = .ok (.getfield 21, 3) ∧ decode cX4_interrupt 4 = .ok (.getfield 130, 3) ∧ decode cX4_interrupt 7 = .ok (.aload_n 1, 1) ∧ decode cX4_interrupt 8 = .ok (.getfield 127, 3) ∧ decode cX4_interrupt 11 = .ok (.if_icmp .ne 11, 3) ∧ decode cX4_interrupt 14 = .ok (.aload_n 0, 1) ∧ decode cX4_interrupt 15 = .ok (.getfield 21, 3) ∧ decode cX4_interrupt 18 = .ok (.iconst (-1), 1) ∧ decode cX4_interrupt 19 = .ok (.putfield 130, 3) ∧ decode cX4_interrupt 22 = .ok (.aload_n 0, 1) ∧ decode cX4_interrupt 23 = .ok (.aload_n 1, 1) ∧ decode cX4_interrupt 24 = .ok (.getfield 127, 3) ∧ decode cX4_interrupt 27 = .ok (.invokevirtual 168, 3) ∧ decode cX4_interrupt 30 = .ok (.return_, 1) ∧ True := dq_of (l := (0, .aload_n 0, 1) :: (1, .getfield 21, 3) :: (4, .getfield 130, 3) :: (7, .aload_n 1, 1) :: (8, .getfield 127, 3) :: (11, .if_icmp .ne 11, 3) :: (14, .aload_n 0, 1) :: (15, .getfield 21, 3) :: (18, .iconst (-1), 1) :: (19, .putfield 130, 3) :: (22, .aload_n 0, 1) :: (23, .aload_n 1, 1) :: (24, .getfield 127, 3) :: (27, .invokevirtual 168, 3) :: (30, .return_, 1) :: []) (by decide +kernel)
set_option maxRecDepth 100000 in
theorem D_X4_giveUpWorkOf : decode cX4_giveUpWorkOf 0 = .ok (.aload_n 0, 1) ∧ decode cX4_giveUpWorkOf 1 = .ok (.getfield 40, 3) ∧ decode cX4_giveUpWorkOf 4 = .ok (.ifCond .eq 11, 3) ∧ decode cX4_giveUpWorkOf 7 = .ok (.aload_n 0, 1) ∧ decode cX4_giveUpWorkOf 8 = .ok (.getfield 65, 3) ∧ decode cX4_giveUpWorkOf 11 = .ok (.iload_n 1, 1) ∧ decode cX4_giveUpWorkOf 12 = .ok (.if_icmp .eq 4, 3) ∧ decode cX4_giveUpWorkOf 15 = .ok (.return_, 1) ∧ decode cX4_giveUpWorkOf 16 = .ok (.aload_n 0, 1) ∧ decode cX4_giveUpWorkOf 17 = .ok (.getfield 40, 3) ∧ decode cX4_giveUpWorkOf 20 = .ok (.iconst 1, 1) ∧ decode cX4_giveUpWorkOf 21 = .ok (.if_icmp .ne 12, 3) ∧ decode cX4_giveUpWorkOf 24 = .ok (.aload_n 0, 1) ∧ decode cX4_giveUpWorkOf 25 = .ok (.getfield 28, 3) ∧ decode cX4_giveUpWorkOf 28 = .ok (.iconst 2, 1) ∧ decode cX4_giveUpWorkOf 29 = .ok (.iconst 1, 1) ∧ decode cX4_giveUpWorkOf 30 = .ok (.invokevirtual 79, 3) ∧ decode cX4_giveUpWorkOf 33 = .ok (.aload_n 0, 1) ∧ decode cX4_giveUpWorkOf 34 = .ok (.iconst 0, 1) ∧ decode cX4_giveUpWorkOf 35 = .ok (.putfield 40, 3) ∧ decode cX4_giveUpWorkOf 38 = .ok (.aload_n 0, 1) ∧ decode cX4_giveUpWorkOf 39 = .ok (.iconst 0, 1) ∧ decode cX4_giveUpWorkOf 40 = .ok (.putfield 68, 3) ∧ decode cX4_giveUpWorkOf 43 = .ok (.return_, 1) ∧ True := dq_of (l := (0, .aload_n 0, 1) :: (1, .getfield 40, 3) :: (4, .ifCond .eq 11, 3) :: (7, .aload_n 0, 1) :: (8, .getfield 65, 3) :: (11, .iload_n 1, 1) :: (12, .if_icmp .eq 4, 3) :: (15, .return_, 1) :: (16, .aload_n 0, 1) :: (17, .getfield 40, 3) :: (20, .iconst 1, 1) :: (21, .if_icmp .ne 12, 3) :: (24, .aload_n 0, 1) :: (25, .getfield 28, 3) :: (28, .iconst 2, 1) :: (29, .iconst 1, 1) :: (30, .invokevirtual 79, 3) :: (33, .aload_n 0, 1) :: (34, .iconst 0, 1) :: (35, .putfield 40, 3) :: (38, .aload_n 0, 1) :: (39, .iconst 0, 1) :: (40, .putfield 68, 3) :: (43, .return_, 1) :: []) (by decide +kernel)
set_option maxRecDepth 100000 in
theorem D_X4_lackingSheets : decode cX4_lackingSheets 0 = .ok (.aload_n 0, 1) ∧ decode cX4_lackingSheets 1 = .ok (.getfield 21, 3) ∧ decode cX4_lackingSheets 4 = .ok (.iload_n 1, 1) ∧ decode cX4_lackingSheets 5 = .ok (.iload_n 2, 1) ∧ decode cX4_lackingSheets 6 = .ok (.invokevirtual 172, 3) ∧ decode cX4_lackingSheets 9 = .ok (.aload_n 0, 1) ∧ decode cX4_lackingSheets 10 = .ok (.getfield 12, 3) ∧ decode cX4_lackingSheets 13 = .ok (.iload_n 1, 1) ∧ decode cX4_lackingSheets 14 = .ok (.iload_n 2, 1) ∧ decode cX4_lackingSheets 15 = .ok (.invokevirtual 175, 3) ∧ decode cX4_lackingSheets 18 = .ok (.isub, 1) ∧ decode cX4_lackingSheets 19 = .ok (.istore_n 3, 1) ∧ decode cX4_lackingSheets 20 = .ok (.aload_n 0, 1) ∧ decode cX4_lackingSheets 21 = .ok (.getfield 40, 3) ∧ decode cX4_lackingSheets 24 = .ok (.iconst 1, 1) ∧ decode cX4_lackingSheets 25 = .ok (.if_icmp .ne 34, 3) ∧ decode cX4_lackingSheets 28 = .ok (.aload_n 0, 1) ∧ decode cX4_lackingSheets 29 = .ok (.getfield 21, 3) ∧ decode cX4_lackingSheets 32 = .ok (.aload_n 0, 1) ∧ decode cX4_lackingSheets 33 = .ok (.getfield 65, 3) ∧ decode cX4_lackingSheets 36 = .ok (.invokevirtual 83, 3) ∧ decode cX4_lackingSheets 39 = .ok (.astore 4, 2) ∧ decode cX4_lackingSheets 41 = .ok (.aload 4, 2) ∧ decode cX4_lackingSheets 43 = .ok (.ifnull 16, 3) ∧ decode cX4_lackingSheets 46 = .ok (.aload 4, 2) ∧ decode cX4_lackingSheets 48 = .ok (.iload_n 1, 1) ∧ decode cX4_lackingSheets 49 = .ok (.iload_n 2, 1) ∧ decode cX4_lackingSheets 50 = .ok (.invokevirtual 178, 3) ∧ decode cX4_lackingSheets 53 = .ok (.ifCond .eq 6, 3) ∧ decode cX4_lackingSheets 56 = .ok (.iinc 3 (-1), 3) ∧ decode cX4_lackingSheets 59 = .ok (.iconst 0, 1) ∧ decode cX4_lackingSheets 60 = .ok (.iload_n 3, 1) ∧ decode cX4_lackingSheets 61 = .ok (.invokestatic 182, 3) ∧ decode cX4_lackingSheets 64 = .ok (.ireturn, 1) ∧ True := dq_of (l := (0, .aload_n 0, 1) :: (1, .getfield 21, 3) :: (4, .iload_n 1, 1) :: (5, .iload_n 2, 1) :: (6, .invokevirtual 172, 3) :: (9, .aload_n 0, 1) :: (10, .getfield 12, 3) :: (13, .iload_n 1, 1) :: (14, .iload_n 2, 1) :: (15, .invokevirtual 175, 3) :: (18, .isub, 1) :: (19, .istore_n 3, 1) :: (20, .aload_n 0, 1) :: (21, .getfield 40, 3) :: (24, .iconst 1, 1) :: (25, .if_icmp .ne 34, 3) :: (28, .aload_n 0, 1) :: (29, .getfield 21, 3) :: (32, .aload_n 0, 1) :: (33, .getfield 65, 3) :: (36, .invokevirtual 83, 3) :: (39, .astore 4, 2) :: (41, .aload 4, 2) :: (43, .ifnull 16, 3) :: (46, .aload 4, 2) :: (48, .iload_n 1, 1) :: (49, .iload_n 2, 1) :: (50, .invokevirtual 178, 3) :: (53, .ifCond .eq 6, 3) :: (56, .iinc 3 (-1), 3) :: (59, .iconst 0, 1) :: (60, .iload_n 3, 1) :: (61, .invokestatic 182, 3) :: (64, .ireturn, 1) :: []) (by decide +kernel)
set_option maxRecDepth 100000 in
theorem D_X5_init : decode cX5_init 0 = .ok (.aload_n 0, 1) ∧ decode cX5_init 1 = .ok (.invokespecial 3, 3) ∧ decode cX5_init 4 = .ok (.aload_n 0, 1) ∧ decode cX5_init 5 = .ok (.bipush 10, 2) ∧ decode cX5_init 7 = .ok (.anewarray 9, 3) ∧ decode cX5_init 10 = .ok (.putfield 11, 3) ∧ decode cX5_init 13 = .ok (.aload_n 0, 1) ∧ decode cX5_init 14 = .ok (.iconst (-1), 1) ∧ decode cX5_init 15 = .ok (.putfield 17, 3) ∧ decode cX5_init 18 = .ok (.iconst 0, 1) ∧ decode cX5_init 19 = .ok (.istore_n 1, 1) ∧ decode cX5_init 20 = .ok (.iload_n 1, 1) ∧ decode cX5_init 21 = .ok (.bipush 10, 2) ∧ decode cX5_init 23 = .ok (.if_icmp .ge 22, 3) ∧ decode cX5_init 26 = .ok (.aload_n 0, 1) ∧ decode cX5_init 27 = .ok (.getfield 11, 3) ∧ decode cX5_init 30 = .ok (.iload_n 1, 1) ∧ decode cX5_init 31 = .ok (.new 9, 3) ∧ decode cX5_init 34 = .ok (.dup, 1) ∧ decode cX5_init 35 = .ok (.invokespecial 21, 3) ∧ decode cX5_init 38 = .ok (.aastore, 1) ∧ decode cX5_init 39 = .ok (.iinc 1 1, 3) ∧ decode cX5_init 42 = .ok (.goto (-22), 3) ∧ decode cX5_init 45 = .ok (.return_, 1) ∧ True := dq_of (l := (0, .aload_n 0, 1) :: (1, .invokespecial 3, 3) :: (4, .aload_n 0, 1) :: (5, .bipush 10, 2) :: (7, .anewarray 9, 3) :: (10, .putfield 11, 3) :: (13, .aload_n 0, 1) :: (14, .iconst (-1), 1) :: (15, .putfield 17, 3) :: (18, .iconst 0, 1) :: (19, .istore_n 1, 1) :: (20, .iload_n 1, 1) :: (21, .bipush 10, 2) :: (23, .if_icmp .ge 22, 3) :: (26, .aload_n 0, 1) :: (27, .getfield 11, 3) :: (30, .iload_n 1, 1) :: (31, .new 9, 3) :: (34, .dup, 1) :: (35, .invokespecial 21, 3) :: (38, .aastore, 1) :: (39, .iinc 1 1, 3) :: (42, .goto (-22), 3) :: (45, .return_, 1) :: []) (by decide +kernel)
set_option maxRecDepth 100000 in
theorem D_X5_copyFrom : decode cX5_copyFrom 0 = .ok (.aload_n 0, 1) ∧ decode cX5_copyFrom 1 = .ok (.aload_n 1, 1) ∧ decode cX5_copyFrom 2 = .ok (.getfield 22, 3) ∧ decode cX5_copyFrom 5 = .ok (.putfield 22, 3) ∧ decode cX5_copyFrom 8 = .ok (.aload_n 0, 1) ∧ decode cX5_copyFrom 9 = .ok (.aload_n 1, 1) ∧ decode cX5_copyFrom 10 = .ok (.getfield 25, 3) ∧ decode cX5_copyFrom 13 = .ok (.putfield 25, 3) ∧ decode cX5_copyFrom 16 = .ok (.aload_n 0, 1) ∧ decode cX5_copyFrom 17 = .ok (.aload_n 1, 1) ∧ decode cX5_copyFrom 18 = .ok (.getfield 17, 3) ∧ decode cX5_copyFrom 21 = .ok (.putfield 17, 3) ∧ decode cX5_copyFrom 24 = .ok (.iconst 0, 1) ∧ decode cX5_copyFrom 25 = .ok (.istore_n 2, 1) ∧ decode cX5_copyFrom 26 = .ok (.iload_n 2, 1) ∧ decode cX5_copyFrom 27 = .ok (.aload_n 0, 1) ∧ decode cX5_copyFrom 28 = .ok (.getfield 22, 3) ∧ decode cX5_copyFrom 31 = .ok (.if_icmp .ge 30, 3) ∧ decode cX5_copyFrom 34 = .ok (.iload_n 2, 1) ∧ decode cX5_copyFrom 35 = .ok (.bipush 10, 2) ∧ decode cX5_copyFrom 37 = .ok (.if_icmp .ge 24, 3) ∧ decode cX5_copyFrom 40 = .ok (.aload_n 0, 1) ∧ decode cX5_copyFrom 41 = .ok (.getfield 11, 3) ∧ decode cX5_copyFrom 44 = .ok (.iload_n 2, 1) ∧ decode cX5_copyFrom 45 = .ok (.aaload, 1) ∧ decode cX5_copyFrom 46 = .ok (.aload_n 1, 1) ∧ decode cX5_copyFrom 47 = .ok (.getfield 11, 3) ∧ decode cX5_copyFrom 50 = .ok (.iload_n 2, 1) ∧ decode cX5_copyFrom 51 = .ok (.aaload, 1) ∧ decode cX5_copyFrom 52 = .ok (.invokevirtual 28, 3) ∧ decode cX5_copyFrom 55 = .ok (.iinc 2 1, 3) ∧ decode cX5_copyFrom 58 = .ok (.goto (-32), 3) ∧ decode cX5_copyFrom 61 = .ok (.return_, 1) ∧ True := dq_of (l := (0, .aload_n 0, 1) :: (1, .aload_n 1, 1) :: (2, .getfield 22, 3) :: (5, .putfield 22, 3) :: (8, .aload_n 0, 1) :: (9, .aload_n 1, 1) :: (10, .getfield 25, 3) :: (13, .putfield 25, 3) :: (16, .aload_n 0, 1) :: (17, .aload_n 1, 1) :: (18, .getfield 17, 3) :: (21, .putfield 17, 3) :: (24, .iconst 0, 1) :: (25, .istore_n 2, 1) :: (26, .iload_n 2, 1) :: (27, .aload_n 0, 1) :: (28, .getfield 22, 3) :: (31, .if_icmp .ge 30, 3) :: (34, .iload_n 2, 1) :: (35, .bipush 10, 2) :: (37, .if_icmp .ge 24, 3) :: (40, .aload_n 0, 1) :: (41, .getfield 11, 3) :: (44, .iload_n 2, 1) :: (45, .aaload, 1) :: (46, .aload_n 1, 1) :: (47, .getfield 11, 3) :: (50, .iload_n 2, 1) :: (51, .aaload, 1) :: (52, .invokevirtual 28, 3) :: (55, .iinc 2 1, 3) :: (58, .goto (-32), 3) :: (61, .return_, 1) :: []) (by decide +kernel)
set_option maxRecDepth 100000 in
theorem D_X5_room : decode cX5_room 0 = .ok (.bipush 10, 2) ∧ decode cX5_room 2 = .ok (.aload_n 0, 1) ∧ decode cX5_room 3 = .ok (.getfield 22, 3) ∧ decode cX5_room 6 = .ok (.isub, 1) ∧ decode cX5_room 7 = .ok (.ireturn, 1) ∧ True := dq_of (l := (0, .bipush 10, 2) :: (2, .aload_n 0, 1) :: (3, .getfield 22, 3) :: (6, .isub, 1) :: (7, .ireturn, 1) :: []) (by decide +kernel)
set_option maxRecDepth 100000 in
theorem D_X5_append : decode cX5_append 0 = .ok (.aload_n 0, 1) ∧ decode cX5_append 1 = .ok (.getfield 22, 3) ∧ decode cX5_append 4 = .ok (.bipush 10, 2) ∧ decode cX5_append 6 = .ok (.if_icmp .lt 6, 3) ∧ decode cX5_append 9 = .ok (.bipush (-3), 2) ∧ decode cX5_append 11 = .ok (.ireturn, 1) ∧ decode cX5_append 12 = .ok (.aload_n 0, 1) ∧ decode cX5_append 13 = .ok (.getfield 11, 3) ∧ decode cX5_append 16 = .ok (.aload_n 0, 1) ∧ decode cX5_append 17 = .ok (.getfield 22, 3) ∧ decode cX5_append 20 = .ok (.aaload, 1) ∧ decode cX5_append 21 = .ok (.astore_n 2, 1) ∧ decode cX5_append 22 = .ok (.aload_n 2, 1) ∧ decode cX5_append 23 = .ok (.aload_n 1, 1) ∧ decode cX5_append 24 = .ok (.invokevirtual 28, 3) ∧ decode cX5_append 27 = .ok (.aload_n 2, 1) ∧ decode cX5_append 28 = .ok (.aload_n 0, 1) ∧ decode cX5_append 29 = .ok (.getfield 25, 3) ∧ decode cX5_append 32 = .ok (.putfield 32, 3) ∧ decode cX5_append 35 = .ok (.aload_n 0, 1) ∧ decode cX5_append 36 = .ok (.dup, 1) ∧ decode cX5_append 37 = .ok (.getfield 22, 3) ∧ decode cX5_append 40 = .ok (.iconst 1, 1) ∧ decode cX5_append 41 = .ok (.iadd, 1) ∧ decode cX5_append 42 = .ok (.putfield 22, 3) ∧ decode cX5_append 45 = .ok (.aload_n 0, 1) ∧ decode cX5_append 46 = .ok (.dup, 1) ∧ decode cX5_append 47 = .ok (.getfield 25, 3) ∧ decode cX5_append 50 = .ok (.iconst 1, 1) ∧ decode cX5_append 51 = .ok (.iadd, 1) ∧ decode cX5_append 52 = .ok (.putfield 25, 3) ∧ decode cX5_append 55 = .ok (.aload_n 2, 1) ∧ decode cX5_append 56 = .ok (.getfield 32, 3) ∧ decode cX5_append 59 = .ok (.ireturn, 1) ∧ True := dq_of (l := (0, .aload_n 0, 1) :: (1, .getfield 22, 3) :: (4, .bipush 10, 2) :: (6, .if_icmp .lt 6, 3) :: (9, .bipush (-3), 2) :: (11, .ireturn, 1) :: (12, .aload_n 0, 1) :: (13, .getfield 11, 3) :: (16, .aload_n 0, 1) :: (17, .getfield 22, 3) :: (20, .aaload, 1) :: (21, .astore_n 2, 1) :: (22, .aload_n 2, 1) :: (23, .aload_n 1, 1) :: (24, .invokevirtual 28, 3) :: (27, .aload_n 2, 1) :: (28, .aload_n 0, 1) :: (29, .getfield 25, 3) :: (32, .putfield 32, 3) :: (35, .aload_n 0, 1) :: (36, .dup, 1) :: (37, .getfield 22, 3) :: (40, .iconst 1, 1) :: (41, .iadd, 1) :: (42, .putfield 22, 3) :: (45, .aload_n 0, 1) :: (46, .dup, 1) :: (47, .getfield 25, 3) :: (50, .iconst 1, 1) :: (51, .iadd, 1) :: (52, .putfield 25, 3) :: (55, .aload_n 2, 1) :: (56, .getfield 32, 3) :: (59, .ireturn, 1) :: []) (by decide +kernel)
set_option maxRecDepth 100000 in
theorem D_X5_find : decode cX5_find 0 = .ok (.iconst 0, 1) ∧ decode cX5_find 1 = .ok (.istore_n 2, 1) ∧ decode cX5_find 2 = .ok (.iload_n 2, 1) ∧ decode cX5_find 3 = .ok (.aload_n 0, 1) ∧ decode cX5_find 4 = .ok (.getfield 22, 3) ∧ decode cX5_find 7 = .ok (.if_icmp .ge 35, 3) ∧ decode cX5_find 10 = .ok (.iload_n 2, 1) ∧ decode cX5_find 11 = .ok (.bipush 10, 2) ∧ decode cX5_find 13 = .ok (.if_icmp .ge 29, 3) ∧ decode cX5_find 16 = .ok (.aload_n 0, 1) ∧ decode cX5_find 17 = .ok (.getfield 11, 3) ∧ decode cX5_find 20 = .ok (.iload_n 2, 1) ∧ decode cX5_find 21 = .ok (.aaload, 1) ∧ decode cX5_find 22 = .ok (.getfield 32, 3) ∧ decode cX5_find 25 = .ok (.iload_n 1, 1) ∧ decode cX5_find 26 = .ok (.if_icmp .ne 10, 3) ∧ decode cX5_find 29 = .ok (.aload_n 0, 1) ∧ decode cX5_find 30 = .ok (.getfield 11, 3) ∧ decode cX5_find 33 = .ok (.iload_n 2, 1) ∧ decode cX5_find 34 = .ok (.aaload, 1) ∧ decode cX5_find 35 = .ok (.areturn, 1) ∧ decode cX5_find 36 = .ok (.iinc 2 1, 3) ∧ decode cX5_find 39 = .ok (.goto (-37), 3) ∧ decode cX5_find 42 = .ok (.aconst_null, 1) ∧ decode cX5_find 43 = .ok (.areturn, 1) ∧ True := dq_of (l := (0, .iconst 0, 1) :: (1, .istore_n 2, 1) :: (2, .iload_n 2, 1) :: (3, .aload_n 0, 1) :: (4, .getfield 22, 3) :: (7, .if_icmp .ge 35, 3) :: (10, .iload_n 2, 1) :: (11, .bipush 10, 2) :: (13, .if_icmp .ge 29, 3) :: (16, .aload_n 0, 1) :: (17, .getfield 11, 3) :: (20, .iload_n 2, 1) :: (21, .aaload, 1) :: (22, .getfield 32, 3) :: (25, .iload_n 1, 1) :: (26, .if_icmp .ne 10, 3) :: (29, .aload_n 0, 1) :: (30, .getfield 11, 3) :: (33, .iload_n 2, 1) :: (34, .aaload, 1) :: (35, .areturn, 1) :: (36, .iinc 2 1, 3) :: (39, .goto (-37), 3) :: (42, .aconst_null, 1) :: (43, .areturn, 1) :: []) (by decide +kernel)
set_option maxRecDepth 100000 in
theorem D_X5_remove : decode cX5_remove 0 = .ok (.iconst 0, 1) ∧ decode cX5_remove 1 = .ok (.istore_n 2, 1) ∧ decode cX5_remove 2 = .ok (.iconst 0, 1) ∧ decode cX5_remove 3 = .ok (.istore_n 3, 1) ∧ decode cX5_remove 4 = .ok (.iload_n 3, 1) ∧ decode cX5_remove 5 = .ok (.aload_n 0, 1) ∧ decode cX5_remove 6 = .ok (.getfield 22, 3) ∧ decode cX5_remove 9 = .ok (.if_icmp .ge 40, 3) ∧ decode cX5_remove 12 = .ok (.iload_n 3, 1) ∧ decode cX5_remove 13 = .ok (.bipush 10, 2) ∧ decode cX5_remove 15 = .ok (.if_icmp .ge 34, 3) ∧ decode cX5_remove 18 = .ok (.aload_n 0, 1) ∧ decode cX5_remove 19 = .ok (.getfield 11, 3) ∧ decode cX5_remove 22 = .ok (.iload_n 3, 1) ∧ decode cX5_remove 23 = .ok (.aaload, 1) ∧ decode cX5_remove 24 = .ok (.aload_n 1, 1) ∧ decode cX5_remove 25 = .ok (.if_acmp .eq 18, 3) ∧ decode cX5_remove 28 = .ok (.aload_n 0, 1) ∧ decode cX5_remove 29 = .ok (.getfield 11, 3) ∧ decode cX5_remove 32 = .ok (.iload_n 2, 1) ∧ decode cX5_remove 33 = .ok (.aload_n 0, 1) ∧ decode cX5_remove 34 = .ok (.getfield 11, 3) ∧ decode cX5_remove 37 = .ok (.iload_n 3, 1) ∧ decode cX5_remove 38 = .ok (.aaload, 1) ∧ decode cX5_remove 39 = .ok (.aastore, 1) ∧ decode cX5_remove 40 = .ok (.iinc 2 1, 3) ∧ decode cX5_remove 43 = .ok (.iinc 3 1, 3) ∧ decode cX5_remove 46 = .ok (.goto (-42), 3) ∧ decode cX5_remove 49 = .ok (.iload_n 2, 1) ∧ decode cX5_remove 50 = .ok (.aload_n 0, 1) ∧ decode cX5_remove 51 = .ok (.getfield 22, 3) ∧ decode cX5_remove 54 = .ok (.if_icmp .ge 15, 3) ∧ decode cX5_remove 57 = .ok (.aload_n 0, 1) ∧ decode cX5_remove 58 = .ok (.getfield 11, 3) ∧ decode cX5_remove 61 = .ok (.iload_n 2, 1) ∧ decode cX5_remove 62 = .ok (.aload_n 1, 1) ∧ decode cX5_remove 63 = .ok (.aastore, 1) ∧ decode cX5_remove 64 = .ok (.aload_n 0, 1) ∧ decode cX5_remove 65 = .ok (.iload_n 2, 1) ∧ decode cX5_remove 66 = .ok (.putfield 22, 3) ∧ decode cX5_remove 69 = .ok (.aload_n 0, 1) ∧ decode cX5_remove 70 = .ok (.getfield 17, 3) ∧ decode cX5_remove 73 = .ok (.aload_n 1, 1) ∧ decode cX5_remove 74 = .ok (.getfield 32, 3) ∧ decode cX5_remove 77 = .ok (.if_icmp .ne 8, 3) ∧ decode cX5_remove 80 = .ok (.aload_n 0, 1) ∧ decode cX5_remove 81 = .ok (.iconst (-1), 1) ∧ decode cX5_remove 82 = .ok (.putfield 17, 3) ∧ decode cX5_remove 85 = .ok (.return_, 1) ∧ True := dq_of (l := (0, .iconst 0, 1) :: (1, .istore_n 2, 1) :: (2, .iconst 0, 1) :: (3, .istore_n 3, 1) :: (4, .iload_n 3, 1) :: (5, .aload_n 0, 1) :: (6, .getfield 22, 3) :: (9, .if_icmp .ge 40, 3) :: (12, .iload_n 3, 1) :: (13, .bipush 10, 2) :: (15, .if_icmp .ge 34, 3) :: (18, .aload_n 0, 1) :: (19, .getfield 11, 3) :: (22, .iload_n 3, 1) :: (23, .aaload, 1) :: (24, .aload_n 1, 1) :: (25, .if_acmp .eq 18, 3) :: (28, .aload_n 0, 1) :: (29, .getfield 11, 3) :: (32, .iload_n 2, 1) :: (33, .aload_n 0, 1) :: (34, .getfield 11, 3) :: (37, .iload_n 3, 1) :: (38, .aaload, 1) :: (39, .aastore, 1) :: (40, .iinc 2 1, 3) :: (43, .iinc 3 1, 3) :: (46, .goto (-42), 3) :: (49, .iload_n 2, 1) :: (50, .aload_n 0, 1) :: (51, .getfield 22, 3) :: (54, .if_icmp .ge 15, 3) :: (57, .aload_n 0, 1) :: (58, .getfield 11, 3) :: (61, .iload_n 2, 1) :: (62, .aload_n 1, 1) :: (63, .aastore, 1) :: (64, .aload_n 0, 1) :: (65, .iload_n 2, 1) :: (66, .putfield 22, 3) :: (69, .aload_n 0, 1) :: (70, .getfield 17, 3) :: (73, .aload_n 1, 1) :: (74, .getfield 32, 3) :: (77, .if_icmp .ne 8, 3) :: (80, .aload_n 0, 1) :: (81, .iconst (-1), 1) :: (82, .putfield 17, 3) :: (85, .return_, 1) :: []) (by decide +kernel)
set_option maxRecDepth 100000 in
theorem D_X5_heldJobs : decode cX5_heldJobs 0 = .ok (.iconst 0, 1) ∧ decode cX5_heldJobs 1 = .ok (.istore_n 1, 1) ∧ decode cX5_heldJobs 2 = .ok (.iconst 0, 1) ∧ decode cX5_heldJobs 3 = .ok (.istore_n 2, 1) ∧ decode cX5_heldJobs 4 = .ok (.iload_n 2, 1) ∧ decode cX5_heldJobs 5 = .ok (.aload_n 0, 1) ∧ decode cX5_heldJobs 6 = .ok (.getfield 22, 3) ∧ decode cX5_heldJobs 9 = .ok (.if_icmp .ge 30, 3) ∧ decode cX5_heldJobs 12 = .ok (.iload_n 2, 1) ∧ decode cX5_heldJobs 13 = .ok (.bipush 10, 2) ∧ decode cX5_heldJobs 15 = .ok (.if_icmp .ge 24, 3) ∧ decode cX5_heldJobs 18 = .ok (.aload_n 0, 1) ∧ decode cX5_heldJobs 19 = .ok (.getfield 11, 3) ∧ decode cX5_heldJobs 22 = .ok (.iload_n 2, 1) ∧ decode cX5_heldJobs 23 = .ok (.aaload, 1) ∧ decode cX5_heldJobs 24 = .ok (.getfield 35, 3) ∧ decode cX5_heldJobs 27 = .ok (.ifCond .eq 6, 3) ∧ decode cX5_heldJobs 30 = .ok (.iinc 1 1, 3) ∧ decode cX5_heldJobs 33 = .ok (.iinc 2 1, 3) ∧ decode cX5_heldJobs 36 = .ok (.goto (-32), 3) ∧ decode cX5_heldJobs 39 = .ok (.iload_n 1, 1) ∧ decode cX5_heldJobs 40 = .ok (.ireturn, 1) ∧ True := dq_of (l := (0, .iconst 0, 1) :: (1, .istore_n 1, 1) :: (2, .iconst 0, 1) :: (3, .istore_n 2, 1) :: (4, .iload_n 2, 1) :: (5, .aload_n 0, 1) :: (6, .getfield 22, 3) :: (9, .if_icmp .ge 30, 3) :: (12, .iload_n 2, 1) :: (13, .bipush 10, 2) :: (15, .if_icmp .ge 24, 3) :: (18, .aload_n 0, 1) :: (19, .getfield 11, 3) :: (22, .iload_n 2, 1) :: (23, .aaload, 1) :: (24, .getfield 35, 3) :: (27, .ifCond .eq 6, 3) :: (30, .iinc 1 1, 3) :: (33, .iinc 2 1, 3) :: (36, .goto (-32), 3) :: (39, .iload_n 1, 1) :: (40, .ireturn, 1) :: []) (by decide +kernel)
set_option maxRecDepth 100000 in
theorem D_X5_isAhead : decode cX5_isAhead 0 = .ok (.aload_n 1, 1) ∧ decode cX5_isAhead 1 = .ok (.getfield 35, 3) ∧ decode cX5_isAhead 4 = .ok (.aload_n 2, 1) ∧ decode cX5_isAhead 5 = .ok (.getfield 35, 3) ∧ decode cX5_isAhead 8 = .ok (.if_icmp .eq 8, 3) ∧ decode cX5_isAhead 11 = .ok (.aload_n 2, 1) ∧ decode cX5_isAhead 12 = .ok (.getfield 35, 3) ∧ decode cX5_isAhead 15 = .ok (.ireturn, 1) ∧ decode cX5_isAhead 16 = .ok (.aload_n 1, 1) ∧ decode cX5_isAhead 17 = .ok (.getfield 32, 3) ∧ decode cX5_isAhead 20 = .ok (.aload_n 0, 1) ∧ decode cX5_isAhead 21 = .ok (.getfield 17, 3) ∧ decode cX5_isAhead 24 = .ok (.if_icmp .eq 14, 3) ∧ decode cX5_isAhead 27 = .ok (.aload_n 2, 1) ∧ decode cX5_isAhead 28 = .ok (.getfield 32, 3) ∧ decode cX5_isAhead 31 = .ok (.aload_n 0, 1) ∧ decode cX5_isAhead 32 = .ok (.getfield 17, 3) ∧ decode cX5_isAhead 35 = .ok (.if_icmp .ne 31, 3) ∧ decode cX5_isAhead 38 = .ok (.aload_n 1, 1) ∧ decode cX5_isAhead 39 = .ok (.getfield 32, 3) ∧ decode cX5_isAhead 42 = .ok (.aload_n 0, 1) ∧ decode cX5_isAhead 43 = .ok (.getfield 17, 3) ∧ decode cX5_isAhead 46 = .ok (.if_icmp .ne 18, 3) ∧ decode cX5_isAhead 49 = .ok (.aload_n 2, 1) ∧ decode cX5_isAhead 50 = .ok (.getfield 32, 3) ∧ decode cX5_isAhead 53 = .ok (.aload_n 0, 1) ∧ decode cX5_isAhead 54 = .ok (.getfield 17, 3) ∧ decode cX5_isAhead 57 = .ok (.if_icmp .eq 7, 3) ∧ decode cX5_isAhead 60 = .ok (.iconst 1, 1) ∧ decode cX5_isAhead 61 = .ok (.goto 4, 3) ∧ decode cX5_isAhead 64 = .ok (.iconst 0, 1) ∧ decode cX5_isAhead 65 = .ok (.ireturn, 1) ∧ decode cX5_isAhead 66 = .ok (.aload_n 1, 1) ∧ decode cX5_isAhead 67 = .ok (.getfield 39, 3) ∧ decode cX5_isAhead 70 = .ok (.aload_n 2, 1) ∧ decode cX5_isAhead 71 = .ok (.getfield 39, 3) ∧ decode cX5_isAhead 74 = .ok (.if_icmp .eq 20, 3) ∧ decode cX5_isAhead 77 = .ok (.aload_n 1, 1) ∧ decode cX5_isAhead 78 = .ok (.getfield 39, 3) ∧ decode cX5_isAhead 81 = .ok (.aload_n 2, 1) ∧ decode cX5_isAhead 82 = .ok (.getfield 39, 3) ∧ decode cX5_isAhead 85 = .ok (.if_icmp .le 7, 3) ∧ decode cX5_isAhead 88 = .ok (.iconst 1, 1) ∧ decode cX5_isAhead 89 = .ok (.goto 4, 3) ∧ decode cX5_isAhead 92 = .ok (.iconst 0, 1) ∧ decode cX5_isAhead 93 = .ok (.ireturn, 1) ∧ decode cX5_isAhead 94 = .ok (.aload_n 1, 1) ∧ decode cX5_isAhead 95 = .ok (.getfield 32, 3) ∧ decode cX5_isAhead 98 = .ok (.aload_n 2, 1) ∧ decode cX5_isAhead 99 = .ok (.getfield 32, 3) ∧ decode cX5_isAhead 102 = .ok (.if_icmp .ge 7, 3) ∧ decode cX5_isAhead 105 = .ok (.iconst 1, 1) ∧ decode cX5_isAhead 106 = .ok (.goto 4, 3) ∧ decode cX5_isAhead 109 = .ok (.iconst 0, 1) ∧ decode cX5_isAhead 110 = .ok (.ireturn, 1) ∧ True := dq_of (l := (0, .aload_n 1, 1) :: (1, .getfield 35, 3) :: (4, .aload_n 2, 1) :: (5, .getfield 35, 3) :: (8, .if_icmp .eq 8, 3) :: (11, .aload_n 2, 1) :: (12, .getfield 35, 3) :: (15, .ireturn, 1) :: (16, .aload_n 1, 1) :: (17, .getfield 32, 3) :: (20, .aload_n 0, 1) :: (21, .getfield 17, 3) :: (24, .if_icmp .eq 14, 3) :: (27, .aload_n 2, 1) :: (28, .getfield 32, 3) :: (31, .aload_n 0, 1) :: (32, .getfield 17, 3) :: (35, .if_icmp .ne 31, 3) :: (38, .aload_n 1, 1) :: (39, .getfield 32, 3) :: (42, .aload_n 0, 1) :: (43, .getfield 17, 3) :: (46, .if_icmp .ne 18, 3) :: (49, .aload_n 2, 1) :: (50, .getfield 32, 3) :: (53, .aload_n 0, 1) :: (54, .getfield 17, 3) :: (57, .if_icmp .eq 7, 3) :: (60, .iconst 1, 1) :: (61, .goto 4, 3) :: (64, .iconst 0, 1) :: (65, .ireturn, 1) :: (66, .aload_n 1, 1) :: (67, .getfield 39, 3) :: (70, .aload_n 2, 1) :: (71, .getfield 39, 3) :: (74, .if_icmp .eq 20, 3) :: (77, .aload_n 1, 1) :: (78, .getfield 39, 3) :: (81, .aload_n 2, 1) :: (82, .getfield 39, 3) :: (85, .if_icmp .le 7, 3) :: (88, .iconst 1, 1) :: (89, .goto 4, 3) :: (92, .iconst 0, 1) :: (93, .ireturn, 1) :: (94, .aload_n 1, 1) :: (95, .getfield 32, 3) :: (98, .aload_n 2, 1) :: (99, .getfield 32, 3) :: (102, .if_icmp .ge 7, 3) :: (105, .iconst 1, 1) :: (106, .goto 4, 3) :: (109, .iconst 0, 1) :: (110, .ireturn, 1) :: []) (by decide +kernel)
set_option maxRecDepth 100000 in
theorem D_X5_jobsAheadOf : decode cX5_jobsAheadOf 0 = .ok (.iconst 0, 1) ∧ decode cX5_jobsAheadOf 1 = .ok (.istore_n 2, 1) ∧ decode cX5_jobsAheadOf 2 = .ok (.iconst 0, 1) ∧ decode cX5_jobsAheadOf 3 = .ok (.istore_n 3, 1) ∧ decode cX5_jobsAheadOf 4 = .ok (.iload_n 3, 1) ∧ decode cX5_jobsAheadOf 5 = .ok (.aload_n 0, 1) ∧ decode cX5_jobsAheadOf 6 = .ok (.getfield 22, 3) ∧ decode cX5_jobsAheadOf 9 = .ok (.if_icmp .ge 32, 3) ∧ decode cX5_jobsAheadOf 12 = .ok (.iload_n 3, 1) ∧ decode cX5_jobsAheadOf 13 = .ok (.bipush 10, 2) ∧ decode cX5_jobsAheadOf 15 = .ok (.if_icmp .ge 26, 3) ∧ decode cX5_jobsAheadOf 18 = .ok (.aload_n 0, 1) ∧ decode cX5_jobsAheadOf 19 = .ok (.aload_n 0, 1) ∧ decode cX5_jobsAheadOf 20 = .ok (.getfield 11, 3) ∧ decode cX5_jobsAheadOf 23 = .ok (.iload_n 3, 1) ∧ decode cX5_jobsAheadOf 24 = .ok (.aaload, 1) ∧ decode cX5_jobsAheadOf 25 = .ok (.aload_n 1, 1) ∧ decode cX5_jobsAheadOf 26 = .ok (.invokevirtual 42, 3) ∧ decode cX5_jobsAheadOf 29 = .ok (.ifCond .eq 6, 3) ∧ decode cX5_jobsAheadOf 32 = .ok (.iinc 2 1, 3) ∧ decode cX5_jobsAheadOf 35 = .ok (.iinc 3 1, 3) ∧ decode cX5_jobsAheadOf 38 = .ok (.goto (-34), 3) ∧ decode cX5_jobsAheadOf 41 = .ok (.iload_n 2, 1) ∧ decode cX5_jobsAheadOf 42 = .ok (.ireturn, 1) ∧ True := dq_of (l := (0, .iconst 0, 1) :: (1, .istore_n 2, 1) :: (2, .iconst 0, 1) :: (3, .istore_n 3, 1) :: (4, .iload_n 3, 1) :: (5, .aload_n 0, 1) :: (6, .getfield 22, 3) :: (9, .if_icmp .ge 32, 3) :: (12, .iload_n 3, 1) :: (13, .bipush 10, 2) :: (15, .if_icmp .ge 26, 3) :: (18, .aload_n 0, 1) :: (19, .aload_n 0, 1) :: (20, .getfield 11, 3) :: (23, .iload_n 3, 1) :: (24, .aaload, 1) :: (25, .aload_n 1, 1) :: (26, .invokevirtual 42, 3) :: (29, .ifCond .eq 6, 3) :: (32, .iinc 2 1, 3) :: (35, .iinc 3 1, 3) :: (38, .goto (-34), 3) :: (41, .iload_n 2, 1) :: (42, .ireturn, 1) :: []) (by decide +kernel)
set_option maxRecDepth 100000 in
theorem D_X5_at : decode cX5_at 0 = .ok (.iconst 0, 1) ∧ decode cX5_at 1 = .ok (.istore_n 2, 1) ∧ decode cX5_at 2 = .ok (.iload_n 2, 1) ∧ decode cX5_at 3 = .ok (.aload_n 0, 1) ∧ decode cX5_at 4 = .ok (.getfield 22, 3) ∧ decode cX5_at 7 = .ok (.if_icmp .ge 36, 3) ∧ decode cX5_at 10 = .ok (.iload_n 2, 1) ∧ decode cX5_at 11 = .ok (.bipush 10, 2) ∧ decode cX5_at 13 = .ok (.if_icmp .ge 30, 3) ∧ decode cX5_at 16 = .ok (.aload_n 0, 1) ∧ decode cX5_at 17 = .ok (.aload_n 0, 1) ∧ decode cX5_at 18 = .ok (.getfield 11, 3) ∧ decode cX5_at 21 = .ok (.iload_n 2, 1) ∧ decode cX5_at 22 = .ok (.aaload, 1) ∧ decode cX5_at 23 = .ok (.invokevirtual 46, 3) ∧ decode cX5_at 26 = .ok (.iload_n 1, 1) ∧ decode cX5_at 27 = .ok (.if_icmp .ne 10, 3) ∧ decode cX5_at 30 = .ok (.aload_n 0, 1) ∧ decode cX5_at 31 = .ok (.getfield 11, 3) ∧ decode cX5_at 34 = .ok (.iload_n 2, 1) ∧ decode cX5_at 35 = .ok (.aaload, 1) ∧ decode cX5_at 36 = .ok (.areturn, 1) ∧ decode cX5_at 37 = .ok (.iinc 2 1, 3) ∧ decode cX5_at 40 = .ok (.goto (-38), 3) ∧ decode cX5_at 43 = .ok (.aconst_null, 1) ∧ decode cX5_at 44 = .ok (.areturn, 1) ∧ True := dq_of (l := (0, .iconst 0, 1) :: (1, .istore_n 2, 1) :: (2, .iload_n 2, 1) :: (3, .aload_n 0, 1) :: (4, .getfield 22, 3) :: (7, .if_icmp .ge 36, 3) :: (10, .iload_n 2, 1) :: (11, .bipush 10, 2) :: (13, .if_icmp .ge 30, 3) :: (16, .aload_n 0, 1) :: (17, .aload_n 0, 1) :: (18, .getfield 11, 3) :: (21, .iload_n 2, 1) :: (22, .aaload, 1) :: (23, .invokevirtual 46, 3) :: (26, .iload_n 1, 1) :: (27, .if_icmp .ne 10, 3) :: (30, .aload_n 0, 1) :: (31, .getfield 11, 3) :: (34, .iload_n 2, 1) :: (35, .aaload, 1) :: (36, .areturn, 1) :: (37, .iinc 2 1, 3) :: (40, .goto (-38), 3) :: (43, .aconst_null, 1) :: (44, .areturn, 1) :: []) (by decide +kernel)
set_option maxRecDepth 100000 in
theorem D_X5_next : decode cX5_next 0 = .ok (.aconst_null, 1) ∧ decode cX5_next 1 = .ok (.astore_n 1, 1) ∧ decode cX5_next 2 = .ok (.iconst 0, 1) ∧ decode cX5_next 3 = .ok (.istore_n 2, 1) ∧ decode cX5_next 4 = .ok (.iload_n 2, 1) ∧ decode cX5_next 5 = .ok (.aload_n 0, 1) ∧ decode cX5_next 6 = .ok (.getfield 22, 3) ∧ decode cX5_next 9 = .ok (.if_icmp .ge 40, 3) ∧ decode cX5_next 12 = .ok (.iload_n 2, 1) ∧ decode cX5_next 13 = .ok (.bipush 10, 2) ∧ decode cX5_next 15 = .ok (.if_icmp .ge 34, 3) ∧ decode cX5_next 18 = .ok (.aload_n 1, 1) ∧ decode cX5_next 19 = .ok (.ifnull 17, 3) ∧ decode cX5_next 22 = .ok (.aload_n 0, 1) ∧ decode cX5_next 23 = .ok (.aload_n 0, 1) ∧ decode cX5_next 24 = .ok (.getfield 11, 3) ∧ decode cX5_next 27 = .ok (.iload_n 2, 1) ∧ decode cX5_next 28 = .ok (.aaload, 1) ∧ decode cX5_next 29 = .ok (.aload_n 1, 1) ∧ decode cX5_next 30 = .ok (.invokevirtual 42, 3) ∧ decode cX5_next 33 = .ok (.ifCond .eq 10, 3) ∧ decode cX5_next 36 = .ok (.aload_n 0, 1) ∧ decode cX5_next 37 = .ok (.getfield 11, 3) ∧ decode cX5_next 40 = .ok (.iload_n 2, 1) ∧ decode cX5_next 41 = .ok (.aaload, 1) ∧ decode cX5_next 42 = .ok (.astore_n 1, 1) ∧ decode cX5_next 43 = .ok (.iinc 2 1, 3) ∧ decode cX5_next 46 = .ok (.goto (-42), 3) ∧ decode cX5_next 49 = .ok (.aload_n 1, 1) ∧ decode cX5_next 50 = .ok (.ifnull 10, 3) ∧ decode cX5_next 53 = .ok (.aload_n 1, 1) ∧ decode cX5_next 54 = .ok (.getfield 35, 3) ∧ decode cX5_next 57 = .ok (.ifCond .eq 7, 3) ∧ decode cX5_next 60 = .ok (.aconst_null, 1) ∧ decode cX5_next 61 = .ok (.goto 4, 3) ∧ decode cX5_next 64 = .ok (.aload_n 1, 1) ∧ decode cX5_next 65 = .ok (.areturn, 1) ∧ True := dq_of (l := (0, .aconst_null, 1) :: (1, .astore_n 1, 1) :: (2, .iconst 0, 1) :: (3, .istore_n 2, 1) :: (4, .iload_n 2, 1) :: (5, .aload_n 0, 1) :: (6, .getfield 22, 3) :: (9, .if_icmp .ge 40, 3) :: (12, .iload_n 2, 1) :: (13, .bipush 10, 2) :: (15, .if_icmp .ge 34, 3) :: (18, .aload_n 1, 1) :: (19, .ifnull 17, 3) :: (22, .aload_n 0, 1) :: (23, .aload_n 0, 1) :: (24, .getfield 11, 3) :: (27, .iload_n 2, 1) :: (28, .aaload, 1) :: (29, .aload_n 1, 1) :: (30, .invokevirtual 42, 3) :: (33, .ifCond .eq 10, 3) :: (36, .aload_n 0, 1) :: (37, .getfield 11, 3) :: (40, .iload_n 2, 1) :: (41, .aaload, 1) :: (42, .astore_n 1, 1) :: (43, .iinc 2 1, 3) :: (46, .goto (-42), 3) :: (49, .aload_n 1, 1) :: (50, .ifnull 10, 3) :: (53, .aload_n 1, 1) :: (54, .getfield 35, 3) :: (57, .ifCond .eq 7, 3) :: (60, .aconst_null, 1) :: (61, .goto 4, 3) :: (64, .aload_n 1, 1) :: (65, .areturn, 1) :: []) (by decide +kernel)
set_option maxRecDepth 100000 in
theorem D_X5_sheetsToPrint : decode cX5_sheetsToPrint 0 = .ok (.iconst 0, 1) ∧ decode cX5_sheetsToPrint 1 = .ok (.istore_n 3, 1) ∧ decode cX5_sheetsToPrint 2 = .ok (.iconst 0, 1) ∧ decode cX5_sheetsToPrint 3 = .ok (.istore 4, 2) ∧ decode cX5_sheetsToPrint 5 = .ok (.iload 4, 2) ∧ decode cX5_sheetsToPrint 7 = .ok (.aload_n 0, 1) ∧ decode cX5_sheetsToPrint 8 = .ok (.getfield 22, 3) ∧ decode cX5_sheetsToPrint 11 = .ok (.if_icmp .ge 55, 3) ∧ decode cX5_sheetsToPrint 14 = .ok (.iload 4, 2) ∧ decode cX5_sheetsToPrint 16 = .ok (.bipush 10, 2) ∧ decode cX5_sheetsToPrint 18 = .ok (.if_icmp .ge 48, 3) ∧ decode cX5_sheetsToPrint 21 = .ok (.aload_n 0, 1) ∧ decode cX5_sheetsToPrint 22 = .ok (.getfield 11, 3) ∧ decode cX5_sheetsToPrint 25 = .ok (.iload 4, 2) ∧ decode cX5_sheetsToPrint 27 = .ok (.aaload, 1) ∧ decode cX5_sheetsToPrint 28 = .ok (.iload_n 1, 1) ∧ decode cX5_sheetsToPrint 29 = .ok (.iload_n 2, 1) ∧ decode cX5_sheetsToPrint 30 = .ok (.invokevirtual 50, 3) ∧ decode cX5_sheetsToPrint 33 = .ok (.ifCond .eq 27, 3) ∧ decode cX5_sheetsToPrint 36 = .ok (.iload_n 3, 1) ∧ decode cX5_sheetsToPrint 37 = .ok (.aload_n 0, 1) ∧ decode cX5_sheetsToPrint 38 = .ok (.getfield 11, 3) ∧ decode cX5_sheetsToPrint 41 = .ok (.iload 4, 2) ∧ decode cX5_sheetsToPrint 43 = .ok (.aaload, 1) ∧ decode cX5_sheetsToPrint 44 = .ok (.getfield 54, 3) ∧ decode cX5_sheetsToPrint 47 = .ok (.aload_n 0, 1) ∧ decode cX5_sheetsToPrint 48 = .ok (.getfield 11, 3) ∧ decode cX5_sheetsToPrint 51 = .ok (.iload 4, 2) ∧ decode cX5_sheetsToPrint 53 = .ok (.aaload, 1) ∧ decode cX5_sheetsToPrint 54 = .ok (.getfield 57, 3) ∧ decode cX5_sheetsToPrint 57 = .ok (.isub, 1) ∧ decode cX5_sheetsToPrint 58 = .ok (.iadd, 1) ∧ decode cX5_sheetsToPrint 59 = .ok (.istore_n 3, 1) ∧ decode cX5_sheetsToPrint 60 = .ok (.iinc 4 1, 3) ∧ decode cX5_sheetsToPrint 63 = .ok (.goto (-58), 3) ∧ decode cX5_sheetsToPrint 66 = .ok (.iload_n 3, 1) ∧ decode cX5_sheetsToPrint 67 = .ok (.ireturn, 1) ∧ True := dq_of (l := (0, .iconst 0, 1) :: (1, .istore_n 3, 1) :: (2, .iconst 0, 1) :: (3, .istore 4, 2) :: (5, .iload 4, 2) :: (7, .aload_n 0, 1) :: (8, .getfield 22, 3) :: (11, .if_icmp .ge 55, 3) :: (14, .iload 4, 2) :: (16, .bipush 10, 2) :: (18, .if_icmp .ge 48, 3) :: (21, .aload_n 0, 1) :: (22, .getfield 11, 3) :: (25, .iload 4, 2) :: (27, .aaload, 1) :: (28, .iload_n 1, 1) :: (29, .iload_n 2, 1) :: (30, .invokevirtual 50, 3) :: (33, .ifCond .eq 27, 3) :: (36, .iload_n 3, 1) :: (37, .aload_n 0, 1) :: (38, .getfield 11, 3) :: (41, .iload 4, 2) :: (43, .aaload, 1) :: (44, .getfield 54, 3) :: (47, .aload_n 0, 1) :: (48, .getfield 11, 3) :: (51, .iload 4, 2) :: (53, .aaload, 1) :: (54, .getfield 57, 3) :: (57, .isub, 1) :: (58, .iadd, 1) :: (59, .istore_n 3, 1) :: (60, .iinc 4 1, 3) :: (63, .goto (-58), 3) :: (66, .iload_n 3, 1) :: (67, .ireturn, 1) :: []) (by decide +kernel)
set_option maxRecDepth 100000 in
theorem D_X6_init : decode cX6_init 0 = .ok (.aload_n 0, 1) ∧ decode cX6_init 1 = .ok (.invokespecial 3, 3) ∧ decode cX6_init 4 = .ok (.aload_n 0, 1) ∧ decode cX6_init 5 = .ok (.iconst 4, 1) ∧ decode cX6_init 6 = .ok (.newarray .int, 2) ∧ decode cX6_init 8 = .ok (.dup, 1) ∧ decode cX6_init 9 = .ok (.iconst 0, 1) ∧ decode cX6_init 10 = .ok (.iconst 1, 1) ∧ decode cX6_init 11 = .ok (.iastore, 1) ∧ decode cX6_init 12 = .ok (.dup, 1) ∧ decode cX6_init 13 = .ok (.iconst 1, 1) ∧ decode cX6_init 14 = .ok (.iconst 1, 1) ∧ decode cX6_init 15 = .ok (.iastore, 1) ∧ decode cX6_init 16 = .ok (.dup, 1) ∧ decode cX6_init 17 = .ok (.iconst 2, 1) ∧ decode cX6_init 18 = .ok (.iconst 1, 1) ∧ decode cX6_init 19 = .ok (.iastore, 1) ∧ decode cX6_init 20 = .ok (.dup, 1) ∧ decode cX6_init 21 = .ok (.iconst 3, 1) ∧ decode cX6_init 22 = .ok (.iconst 1, 1) ∧ decode cX6_init 23 = .ok (.iastore, 1) ∧ decode cX6_init 24 = .ok (.putfield 9, 3) ∧ decode cX6_init 27 = .ok (.aload_n 0, 1) ∧ decode cX6_init 28 = .ok (.iconst 4, 1) ∧ decode cX6_init 29 = .ok (.newarray .int, 2) ∧ decode cX6_init 31 = .ok (.putfield 15, 3) ∧ decode cX6_init 34 = .ok (.aload_n 0, 1) ∧ decode cX6_init 35 = .ok (.iconst 4, 1) ∧ decode cX6_init 36 = .ok (.newarray .int, 2) ∧ decode cX6_init 38 = .ok (.putfield 18, 3) ∧ decode cX6_init 41 = .ok (.return_, 1) ∧ True := dq_of (l := (0, .aload_n 0, 1) :: (1, .invokespecial 3, 3) :: (4, .aload_n 0, 1) :: (5, .iconst 4, 1) :: (6, .newarray .int, 2) :: (8, .dup, 1) :: (9, .iconst 0, 1) :: (10, .iconst 1, 1) :: (11, .iastore, 1) :: (12, .dup, 1) :: (13, .iconst 1, 1) :: (14, .iconst 1, 1) :: (15, .iastore, 1) :: (16, .dup, 1) :: (17, .iconst 2, 1) :: (18, .iconst 1, 1) :: (19, .iastore, 1) :: (20, .dup, 1) :: (21, .iconst 3, 1) :: (22, .iconst 1, 1) :: (23, .iastore, 1) :: (24, .putfield 9, 3) :: (27, .aload_n 0, 1) :: (28, .iconst 4, 1) :: (29, .newarray .int, 2) :: (31, .putfield 15, 3) :: (34, .aload_n 0, 1) :: (35, .iconst 4, 1) :: (36, .newarray .int, 2) :: (38, .putfield 18, 3) :: (41, .return_, 1) :: []) (by decide +kernel)
set_option maxRecDepth 100000 in
theorem D_X6_copyFrom : decode cX6_copyFrom 0 = .ok (.aload_n 1, 1) ∧ decode cX6_copyFrom 1 = .ok (.getfield 9, 3) ∧ decode cX6_copyFrom 4 = .ok (.iconst 0, 1) ∧ decode cX6_copyFrom 5 = .ok (.aload_n 0, 1) ∧ decode cX6_copyFrom 6 = .ok (.getfield 9, 3) ∧ decode cX6_copyFrom 9 = .ok (.iconst 0, 1) ∧ decode cX6_copyFrom 10 = .ok (.iconst 4, 1) ∧ decode cX6_copyFrom 11 = .ok (.invokestatic 21, 3) ∧ decode cX6_copyFrom 14 = .ok (.aload_n 1, 1) ∧ decode cX6_copyFrom 15 = .ok (.getfield 15, 3) ∧ decode cX6_copyFrom 18 = .ok (.iconst 0, 1) ∧ decode cX6_copyFrom 19 = .ok (.aload_n 0, 1) ∧ decode cX6_copyFrom 20 = .ok (.getfield 15, 3) ∧ decode cX6_copyFrom 23 = .ok (.iconst 0, 1) ∧ decode cX6_copyFrom 24 = .ok (.iconst 4, 1) ∧ decode cX6_copyFrom 25 = .ok (.invokestatic 21, 3) ∧ decode cX6_copyFrom 28 = .ok (.aload_n 1, 1) ∧ decode cX6_copyFrom 29 = .ok (.getfield 18, 3) ∧ decode cX6_copyFrom 32 = .ok (.iconst 0, 1) ∧ decode cX6_copyFrom 33 = .ok (.aload_n 0, 1) ∧ decode cX6_copyFrom 34 = .ok (.getfield 18, 3) ∧ decode cX6_copyFrom 37 = .ok (.iconst 0, 1) ∧ decode cX6_copyFrom 38 = .ok (.iconst 4, 1) ∧ decode cX6_copyFrom 39 = .ok (.invokestatic 21, 3) ∧ decode cX6_copyFrom 42 = .ok (.return_, 1) ∧ True := dq_of (l := (0, .aload_n 1, 1) :: (1, .getfield 9, 3) :: (4, .iconst 0, 1) :: (5, .aload_n 0, 1) :: (6, .getfield 9, 3) :: (9, .iconst 0, 1) :: (10, .iconst 4, 1) :: (11, .invokestatic 21, 3) :: (14, .aload_n 1, 1) :: (15, .getfield 15, 3) :: (18, .iconst 0, 1) :: (19, .aload_n 0, 1) :: (20, .getfield 15, 3) :: (23, .iconst 0, 1) :: (24, .iconst 4, 1) :: (25, .invokestatic 21, 3) :: (28, .aload_n 1, 1) :: (29, .getfield 18, 3) :: (32, .iconst 0, 1) :: (33, .aload_n 0, 1) :: (34, .getfield 18, 3) :: (37, .iconst 0, 1) :: (38, .iconst 4, 1) :: (39, .invokestatic 21, 3) :: (42, .return_, 1) :: []) (by decide +kernel)
set_option maxRecDepth 100000 in
theorem D_X6_change : decode cX6_change 0 = .ok (.iload_n 1, 1) ∧ decode cX6_change 1 = .ok (.iconst 4, 1) ∧ decode cX6_change 2 = .ok (.invokestatic 27, 3) ∧ decode cX6_change 5 = .ok (.ifCond .ne 5, 3) ∧ decode cX6_change 8 = .ok (.iconst 0, 1) ∧ decode cX6_change 9 = .ok (.ireturn, 1) ∧ decode cX6_change 10 = .ok (.aload_n 0, 1) ∧ decode cX6_change 11 = .ok (.getfield 18, 3) ∧ decode cX6_change 14 = .ok (.iload_n 1, 1) ∧ decode cX6_change 15 = .ok (.iaload, 1) ∧ decode cX6_change 16 = .ok (.istore 4, 2) ∧ decode cX6_change 18 = .ok (.aload_n 0, 1) ∧ decode cX6_change 19 = .ok (.getfield 9, 3) ∧ decode cX6_change 22 = .ok (.iload_n 1, 1) ∧ decode cX6_change 23 = .ok (.iload_n 2, 1) ∧ decode cX6_change 24 = .ok (.iastore, 1) ∧ decode cX6_change 25 = .ok (.aload_n 0, 1) ∧ decode cX6_change 26 = .ok (.getfield 15, 3) ∧ decode cX6_change 29 = .ok (.iload_n 1, 1) ∧ decode cX6_change 30 = .ok (.iload_n 3, 1) ∧ decode cX6_change 31 = .ok (.iastore, 1) ∧ decode cX6_change 32 = .ok (.aload_n 0, 1) ∧ decode cX6_change 33 = .ok (.getfield 18, 3) ∧ decode cX6_change 36 = .ok (.iload_n 1, 1) ∧ decode cX6_change 37 = .ok (.iconst 0, 1) ∧ decode cX6_change 38 = .ok (.iastore, 1) ∧ decode cX6_change 39 = .ok (.iload 4, 2) ∧ decode cX6_change 41 = .ok (.ireturn, 1) ∧ True := dq_of (l := (0, .iload_n 1, 1) :: (1, .iconst 4, 1) :: (2, .invokestatic 27, 3) :: (5, .ifCond .ne 5, 3) :: (8, .iconst 0, 1) :: (9, .ireturn, 1) :: (10, .aload_n 0, 1) :: (11, .getfield 18, 3) :: (14, .iload_n 1, 1) :: (15, .iaload, 1) :: (16, .istore 4, 2) :: (18, .aload_n 0, 1) :: (19, .getfield 9, 3) :: (22, .iload_n 1, 1) :: (23, .iload_n 2, 1) :: (24, .iastore, 1) :: (25, .aload_n 0, 1) :: (26, .getfield 15, 3) :: (29, .iload_n 1, 1) :: (30, .iload_n 3, 1) :: (31, .iastore, 1) :: (32, .aload_n 0, 1) :: (33, .getfield 18, 3) :: (36, .iload_n 1, 1) :: (37, .iconst 0, 1) :: (38, .iastore, 1) :: (39, .iload 4, 2) :: (41, .ireturn, 1) :: []) (by decide +kernel)
set_option maxRecDepth 100000 in
theorem D_X6_sheetsOf : decode cX6_sheetsOf 0 = .ok (.iconst 0, 1) ∧ decode cX6_sheetsOf 1 = .ok (.istore_n 3, 1) ∧ decode cX6_sheetsOf 2 = .ok (.iconst 0, 1) ∧ decode cX6_sheetsOf 3 = .ok (.istore 4, 2) ∧ decode cX6_sheetsOf 5 = .ok (.iload 4, 2) ∧ decode cX6_sheetsOf 7 = .ok (.iconst 4, 1) ∧ decode cX6_sheetsOf 8 = .ok (.if_icmp .ge 41, 3) ∧ decode cX6_sheetsOf 11 = .ok (.aload_n 0, 1) ∧ decode cX6_sheetsOf 12 = .ok (.getfield 9, 3) ∧ decode cX6_sheetsOf 15 = .ok (.iload 4, 2) ∧ decode cX6_sheetsOf 17 = .ok (.iaload, 1) ∧ decode cX6_sheetsOf 18 = .ok (.iload_n 1, 1) ∧ decode cX6_sheetsOf 19 = .ok (.if_icmp .ne 24, 3) ∧ decode cX6_sheetsOf 22 = .ok (.aload_n 0, 1) ∧ decode cX6_sheetsOf 23 = .ok (.getfield 15, 3) ∧ decode cX6_sheetsOf 26 = .ok (.iload 4, 2) ∧ decode cX6_sheetsOf 28 = .ok (.iaload, 1) ∧ decode cX6_sheetsOf 29 = .ok (.iload_n 2, 1) ∧ decode cX6_sheetsOf 30 = .ok (.if_icmp .ne 13, 3) ∧ decode cX6_sheetsOf 33 = .ok (.iload_n 3, 1) ∧ decode cX6_sheetsOf 34 = .ok (.aload_n 0, 1) ∧ decode cX6_sheetsOf 35 = .ok (.getfield 18, 3) ∧ decode cX6_sheetsOf 38 = .ok (.iload 4, 2) ∧ decode cX6_sheetsOf 40 = .ok (.iaload, 1) ∧ decode cX6_sheetsOf 41 = .ok (.iadd, 1) ∧ decode cX6_sheetsOf 42 = .ok (.istore_n 3, 1) ∧ decode cX6_sheetsOf 43 = .ok (.iinc 4 1, 3) ∧ decode cX6_sheetsOf 46 = .ok (.goto (-41), 3) ∧ decode cX6_sheetsOf 49 = .ok (.iload_n 3, 1) ∧ decode cX6_sheetsOf 50 = .ok (.ireturn, 1) ∧ True := dq_of (l := (0, .iconst 0, 1) :: (1, .istore_n 3, 1) :: (2, .iconst 0, 1) :: (3, .istore 4, 2) :: (5, .iload 4, 2) :: (7, .iconst 4, 1) :: (8, .if_icmp .ge 41, 3) :: (11, .aload_n 0, 1) :: (12, .getfield 9, 3) :: (15, .iload 4, 2) :: (17, .iaload, 1) :: (18, .iload_n 1, 1) :: (19, .if_icmp .ne 24, 3) :: (22, .aload_n 0, 1) :: (23, .getfield 15, 3) :: (26, .iload 4, 2) :: (28, .iaload, 1) :: (29, .iload_n 2, 1) :: (30, .if_icmp .ne 13, 3) :: (33, .iload_n 3, 1) :: (34, .aload_n 0, 1) :: (35, .getfield 18, 3) :: (38, .iload 4, 2) :: (40, .iaload, 1) :: (41, .iadd, 1) :: (42, .istore_n 3, 1) :: (43, .iinc 4 1, 3) :: (46, .goto (-41), 3) :: (49, .iload_n 3, 1) :: (50, .ireturn, 1) :: []) (by decide +kernel)
set_option maxRecDepth 100000 in
theorem D_X6_lowestWith : decode cX6_lowestWith 0 = .ok (.iconst 0, 1) ∧ decode cX6_lowestWith 1 = .ok (.istore_n 3, 1) ∧ decode cX6_lowestWith 2 = .ok (.iload_n 3, 1) ∧ decode cX6_lowestWith 3 = .ok (.iconst 4, 1) ∧ decode cX6_lowestWith 4 = .ok (.if_icmp .ge 40, 3) ∧ decode cX6_lowestWith 7 = .ok (.aload_n 0, 1) ∧ decode cX6_lowestWith 8 = .ok (.getfield 9, 3) ∧ decode cX6_lowestWith 11 = .ok (.iload_n 3, 1) ∧ decode cX6_lowestWith 12 = .ok (.iaload, 1) ∧ decode cX6_lowestWith 13 = .ok (.iload_n 1, 1) ∧ decode cX6_lowestWith 14 = .ok (.if_icmp .ne 24, 3) ∧ decode cX6_lowestWith 17 = .ok (.aload_n 0, 1) ∧ decode cX6_lowestWith 18 = .ok (.getfield 15, 3) ∧ decode cX6_lowestWith 21 = .ok (.iload_n 3, 1) ∧ decode cX6_lowestWith 22 = .ok (.iaload, 1) ∧ decode cX6_lowestWith 23 = .ok (.iload_n 2, 1) ∧ decode cX6_lowestWith 24 = .ok (.if_icmp .ne 14, 3) ∧ decode cX6_lowestWith 27 = .ok (.aload_n 0, 1) ∧ decode cX6_lowestWith 28 = .ok (.getfield 18, 3) ∧ decode cX6_lowestWith 31 = .ok (.iload_n 3, 1) ∧ decode cX6_lowestWith 32 = .ok (.iaload, 1) ∧ decode cX6_lowestWith 33 = .ok (.ifCond .le 5, 3) ∧ decode cX6_lowestWith 36 = .ok (.iload_n 3, 1) ∧ decode cX6_lowestWith 37 = .ok (.ireturn, 1) ∧ decode cX6_lowestWith 38 = .ok (.iinc 3 1, 3) ∧ decode cX6_lowestWith 41 = .ok (.goto (-39), 3) ∧ decode cX6_lowestWith 44 = .ok (.iconst (-1), 1) ∧ decode cX6_lowestWith 45 = .ok (.ireturn, 1) ∧ True := dq_of (l := (0, .iconst 0, 1) :: (1, .istore_n 3, 1) :: (2, .iload_n 3, 1) :: (3, .iconst 4, 1) :: (4, .if_icmp .ge 40, 3) :: (7, .aload_n 0, 1) :: (8, .getfield 9, 3) :: (11, .iload_n 3, 1) :: (12, .iaload, 1) :: (13, .iload_n 1, 1) :: (14, .if_icmp .ne 24, 3) :: (17, .aload_n 0, 1) :: (18, .getfield 15, 3) :: (21, .iload_n 3, 1) :: (22, .iaload, 1) :: (23, .iload_n 2, 1) :: (24, .if_icmp .ne 14, 3) :: (27, .aload_n 0, 1) :: (28, .getfield 18, 3) :: (31, .iload_n 3, 1) :: (32, .iaload, 1) :: (33, .ifCond .le 5, 3) :: (36, .iload_n 3, 1) :: (37, .ireturn, 1) :: (38, .iinc 3 1, 3) :: (41, .goto (-39), 3) :: (44, .iconst (-1), 1) :: (45, .ireturn, 1) :: []) (by decide +kernel)
set_option maxRecDepth 100000 in
theorem D_X6_takeSheet : decode cX6_takeSheet 0 = .ok (.aload_n 0, 1) ∧ decode cX6_takeSheet 1 = .ok (.iload_n 1, 1) ∧ decode cX6_takeSheet 2 = .ok (.iload_n 2, 1) ∧ decode cX6_takeSheet 3 = .ok (.invokevirtual 31, 3) ∧ decode cX6_takeSheet 6 = .ok (.istore_n 3, 1) ∧ decode cX6_takeSheet 7 = .ok (.iload_n 3, 1) ∧ decode cX6_takeSheet 8 = .ok (.iconst (-1), 1) ∧ decode cX6_takeSheet 9 = .ok (.if_icmp .eq 13, 3) ∧ decode cX6_takeSheet 12 = .ok (.aload_n 0, 1) ∧ decode cX6_takeSheet 13 = .ok (.getfield 18, 3) ∧ decode cX6_takeSheet 16 = .ok (.iload_n 3, 1) ∧ decode cX6_takeSheet 17 = .ok (.dup2, 1) ∧ decode cX6_takeSheet 18 = .ok (.iaload, 1) ∧ decode cX6_takeSheet 19 = .ok (.iconst 1, 1) ∧ decode cX6_takeSheet 20 = .ok (.isub, 1) ∧ decode cX6_takeSheet 21 = .ok (.iastore, 1) ∧ decode cX6_takeSheet 22 = .ok (.return_, 1) ∧ True := dq_of (l := (0, .aload_n 0, 1) :: (1, .iload_n 1, 1) :: (2, .iload_n 2, 1) :: (3, .invokevirtual 31, 3) :: (6, .istore_n 3, 1) :: (7, .iload_n 3, 1) :: (8, .iconst (-1), 1) :: (9, .if_icmp .eq 13, 3) :: (12, .aload_n 0, 1) :: (13, .getfield 18, 3) :: (16, .iload_n 3, 1) :: (17, .dup2, 1) :: (18, .iaload, 1) :: (19, .iconst 1, 1) :: (20, .isub, 1) :: (21, .iastore, 1) :: (22, .return_, 1) :: []) (by decide +kernel)
set_option maxRecDepth 100000 in
theorem D_X7_init : decode cX7_init 0 = .ok (.aload_n 0, 1) ∧ decode cX7_init 1 = .ok (.invokespecial 3, 3) ∧ decode cX7_init 4 = .ok (.aload_n 0, 1) ∧ decode cX7_init 5 = .ok (.new 9, 3) ∧ decode cX7_init 8 = .ok (.dup, 1) ∧ decode cX7_init 9 = .ok (.invokespecial 11, 3) ∧ decode cX7_init 12 = .ok (.putfield 12, 3) ∧ decode cX7_init 15 = .ok (.aload_n 0, 1) ∧ decode cX7_init 16 = .ok (.new 9, 3) ∧ decode cX7_init 19 = .ok (.dup, 1) ∧ decode cX7_init 20 = .ok (.invokespecial 11, 3) ∧ decode cX7_init 23 = .ok (.putfield 16, 3) ∧ decode cX7_init 26 = .ok (.aload_n 0, 1) ∧ decode cX7_init 27 = .ok (.new 19, 3) ∧ decode cX7_init 30 = .ok (.dup, 1) ∧ decode cX7_init 31 = .ok (.invokespecial 21, 3) ∧ decode cX7_init 34 = .ok (.putfield 22, 3) ∧ decode cX7_init 37 = .ok (.aload_n 0, 1) ∧ decode cX7_init 38 = .ok (.new 26, 3) ∧ decode cX7_init 41 = .ok (.dup, 1) ∧ decode cX7_init 42 = .ok (.invokespecial 28, 3) ∧ decode cX7_init 45 = .ok (.putfield 29, 3) ∧ decode cX7_init 48 = .ok (.aload_n 0, 1) ∧ decode cX7_init 49 = .ok (.new 33, 3) ∧ decode cX7_init 52 = .ok (.dup, 1) ∧ decode cX7_init 53 = .ok (.invokespecial 35, 3) ∧ decode cX7_init 56 = .ok (.putfield 36, 3) ∧ decode cX7_init 59 = .ok (.return_, 1) ∧ True := dq_of (l := (0, .aload_n 0, 1) :: (1, .invokespecial 3, 3) :: (4, .aload_n 0, 1) :: (5, .new 9, 3) :: (8, .dup, 1) :: (9, .invokespecial 11, 3) :: (12, .putfield 12, 3) :: (15, .aload_n 0, 1) :: (16, .new 9, 3) :: (19, .dup, 1) :: (20, .invokespecial 11, 3) :: (23, .putfield 16, 3) :: (26, .aload_n 0, 1) :: (27, .new 19, 3) :: (30, .dup, 1) :: (31, .invokespecial 21, 3) :: (34, .putfield 22, 3) :: (37, .aload_n 0, 1) :: (38, .new 26, 3) :: (41, .dup, 1) :: (42, .invokespecial 28, 3) :: (45, .putfield 29, 3) :: (48, .aload_n 0, 1) :: (49, .new 33, 3) :: (52, .dup, 1) :: (53, .invokespecial 35, 3) :: (56, .putfield 36, 3) :: (59, .return_, 1) :: []) (by decide +kernel)
set_option maxRecDepth 100000 in
theorem D_X7_fill : decode cX7_fill 0 = .ok (.iload_n 1, 1) ∧ decode cX7_fill 1 = .ok (.iconst 4, 1) ∧ decode cX7_fill 2 = .ok (.invokestatic 40, 3) ∧ decode cX7_fill 5 = .ok (.ifCond .eq 14, 3) ∧ decode cX7_fill 8 = .ok (.iload_n 2, 1) ∧ decode cX7_fill 9 = .ok (.iconst 1, 1) ∧ decode cX7_fill 10 = .ok (.sipush 500, 3) ∧ decode cX7_fill 13 = .ok (.invokestatic 44, 3) ∧ decode cX7_fill 16 = .ok (.ifCond .ne 5, 3) ∧ decode cX7_fill 19 = .ok (.iconst (-1), 1) ∧ decode cX7_fill 20 = .ok (.ireturn, 1) ∧ decode cX7_fill 21 = .ok (.aload_n 0, 1) ∧ decode cX7_fill 22 = .ok (.getfield 12, 3) ∧ decode cX7_fill 25 = .ok (.getfield 48, 3) ∧ decode cX7_fill 28 = .ok (.getfield 52, 3) ∧ decode cX7_fill 31 = .ok (.iload_n 1, 1) ∧ decode cX7_fill 32 = .ok (.iaload, 1) ∧ decode cX7_fill 33 = .ok (.iload_n 2, 1) ∧ decode cX7_fill 34 = .ok (.iadd, 1) ∧ decode cX7_fill 35 = .ok (.istore_n 3, 1) ∧ decode cX7_fill 36 = .ok (.iload_n 3, 1) ∧ decode cX7_fill 37 = .ok (.sipush 500, 3) ∧ decode cX7_fill 40 = .ok (.if_icmp .le 6, 3) ∧ decode cX7_fill 43 = .ok (.bipush (-3), 2) ∧ decode cX7_fill 45 = .ok (.ireturn, 1) ∧ decode cX7_fill 46 = .ok (.aload_n 0, 1) ∧ decode cX7_fill 47 = .ok (.getfield 22, 3) ∧ decode cX7_fill 50 = .ok (.aload_n 0, 1) ∧ decode cX7_fill 51 = .ok (.getfield 12, 3) ∧ decode cX7_fill 54 = .ok (.invokevirtual 58, 3) ∧ decode cX7_fill 57 = .ok (.aload_n 0, 1) ∧ decode cX7_fill 58 = .ok (.getfield 12, 3) ∧ decode cX7_fill 61 = .ok (.getfield 48, 3) ∧ decode cX7_fill 64 = .ok (.getfield 52, 3) ∧ decode cX7_fill 67 = .ok (.iload_n 1, 1) ∧ decode cX7_fill 68 = .ok (.iload_n 3, 1) ∧ decode cX7_fill 69 = .ok (.iastore, 1) ∧ decode cX7_fill 70 = .ok (.iload_n 3, 1) ∧ decode cX7_fill 71 = .ok (.ireturn, 1) ∧ True := dq_of (l := (0, .iload_n 1, 1) :: (1, .iconst 4, 1) :: (2, .invokestatic 40, 3) :: (5, .ifCond .eq 14, 3) :: (8, .iload_n 2, 1) :: (9, .iconst 1, 1) :: (10, .sipush 500, 3) :: (13, .invokestatic 44, 3) :: (16, .ifCond .ne 5, 3) :: (19, .iconst (-1), 1) :: (20, .ireturn, 1) :: (21, .aload_n 0, 1) :: (22, .getfield 12, 3) :: (25, .getfield 48, 3) :: (28, .getfield 52, 3) :: (31, .iload_n 1, 1) :: (32, .iaload, 1) :: (33, .iload_n 2, 1) :: (34, .iadd, 1) :: (35, .istore_n 3, 1) :: (36, .iload_n 3, 1) :: (37, .sipush 500, 3) :: (40, .if_icmp .le 6, 3) :: (43, .bipush (-3), 2) :: (45, .ireturn, 1) :: (46, .aload_n 0, 1) :: (47, .getfield 22, 3) :: (50, .aload_n 0, 1) :: (51, .getfield 12, 3) :: (54, .invokevirtual 58, 3) :: (57, .aload_n 0, 1) :: (58, .getfield 12, 3) :: (61, .getfield 48, 3) :: (64, .getfield 52, 3) :: (67, .iload_n 1, 1) :: (68, .iload_n 3, 1) :: (69, .iastore, 1) :: (70, .iload_n 3, 1) :: (71, .ireturn, 1) :: []) (by decide +kernel)
set_option maxRecDepth 100000 in
theorem D_X7_load : decode cX7_load 0 = .ok (.iload_n 1, 1) ∧ decode cX7_load 1 = .ok (.iconst 4, 1) ∧ decode cX7_load 2 = .ok (.invokestatic 40, 3) ∧ decode cX7_load 5 = .ok (.ifCond .eq 11, 3) ∧ decode cX7_load 8 = .ok (.iload_n 2, 1) ∧ decode cX7_load 9 = .ok (.iload_n 3, 1) ∧ decode cX7_load 10 = .ok (.invokestatic 62, 3) ∧ decode cX7_load 13 = .ok (.ifCond .ne 5, 3) ∧ decode cX7_load 16 = .ok (.iconst (-1), 1) ∧ decode cX7_load 17 = .ok (.ireturn, 1) ∧ decode cX7_load 18 = .ok (.aload_n 0, 1) ∧ decode cX7_load 19 = .ok (.getfield 22, 3) ∧ decode cX7_load 22 = .ok (.aload_n 0, 1) ∧ decode cX7_load 23 = .ok (.getfield 12, 3) ∧ decode cX7_load 26 = .ok (.invokevirtual 58, 3) ∧ decode cX7_load 29 = .ok (.aload_n 0, 1) ∧ decode cX7_load 30 = .ok (.getfield 12, 3) ∧ decode cX7_load 33 = .ok (.getfield 48, 3) ∧ decode cX7_load 36 = .ok (.iload_n 1, 1) ∧ decode cX7_load 37 = .ok (.iload_n 2, 1) ∧ decode cX7_load 38 = .ok (.iload_n 3, 1) ∧ decode cX7_load 39 = .ok (.invokevirtual 65, 3) ∧ decode cX7_load 42 = .ok (.ireturn, 1) ∧ True := dq_of (l := (0, .iload_n 1, 1) :: (1, .iconst 4, 1) :: (2, .invokestatic 40, 3) :: (5, .ifCond .eq 11, 3) :: (8, .iload_n 2, 1) :: (9, .iload_n 3, 1) :: (10, .invokestatic 62, 3) :: (13, .ifCond .ne 5, 3) :: (16, .iconst (-1), 1) :: (17, .ireturn, 1) :: (18, .aload_n 0, 1) :: (19, .getfield 22, 3) :: (22, .aload_n 0, 1) :: (23, .getfield 12, 3) :: (26, .invokevirtual 58, 3) :: (29, .aload_n 0, 1) :: (30, .getfield 12, 3) :: (33, .getfield 48, 3) :: (36, .iload_n 1, 1) :: (37, .iload_n 2, 1) :: (38, .iload_n 3, 1) :: (39, .invokevirtual 65, 3) :: (42, .ireturn, 1) :: []) (by decide +kernel)
set_option maxRecDepth 100000 in
theorem D_X7_tray : decode cX7_tray 0 = .ok (.iload_n 1, 1) ∧ decode cX7_tray 1 = .ok (.iconst 4, 1) ∧ decode cX7_tray 2 = .ok (.invokestatic 40, 3) ∧ decode cX7_tray 5 = .ok (.ifCond .ne 5, 3) ∧ decode cX7_tray 8 = .ok (.iconst (-1), 1) ∧ decode cX7_tray 9 = .ok (.ireturn, 1) ∧ decode cX7_tray 10 = .ok (.aload_n 0, 1) ∧ decode cX7_tray 11 = .ok (.getfield 12, 3) ∧ decode cX7_tray 14 = .ok (.getfield 48, 3) ∧ decode cX7_tray 17 = .ok (.astore_n 3, 1) ∧ decode cX7_tray 18 = .ok (.iload_n 2, 1) ∧ decode cX7_tray 19 = .ok (.tableswitch 67 0 3 #[29, 36, 43, 50], 29) ∧ decode cX7_tray 48 = .ok (.aload_n 3, 1) ∧ decode cX7_tray 49 = .ok (.getfield 69, 3) ∧ decode cX7_tray 52 = .ok (.iload_n 1, 1) ∧ decode cX7_tray 53 = .ok (.iaload, 1) ∧ decode cX7_tray 54 = .ok (.ireturn, 1) ∧ decode cX7_tray 55 = .ok (.aload_n 3, 1) ∧ decode cX7_tray 56 = .ok (.getfield 72, 3) ∧ decode cX7_tray 59 = .ok (.iload_n 1, 1) ∧ decode cX7_tray 60 = .ok (.iaload, 1) ∧ decode cX7_tray 61 = .ok (.ireturn, 1) ∧ decode cX7_tray 62 = .ok (.aload_n 3, 1) ∧ decode cX7_tray 63 = .ok (.getfield 52, 3) ∧ decode cX7_tray 66 = .ok (.iload_n 1, 1) ∧ decode cX7_tray 67 = .ok (.iaload, 1) ∧ decode cX7_tray 68 = .ok (.ireturn, 1) ∧ decode cX7_tray 69 = .ok (.aload_n 3, 1) ∧ decode cX7_tray 70 = .ok (.aload_n 3, 1) ∧ decode cX7_tray 71 = .ok (.getfield 69, 3) ∧ decode cX7_tray 74 = .ok (.iload_n 1, 1) ∧ decode cX7_tray 75 = .ok (.iaload, 1) ∧ decode cX7_tray 76 = .ok (.aload_n 3, 1) ∧ decode cX7_tray 77 = .ok (.getfield 72, 3) ∧ decode cX7_tray 80 = .ok (.iload_n 1, 1) ∧ decode cX7_tray 81 = .ok (.iaload, 1) ∧ decode cX7_tray 82 = .ok (.invokevirtual 75, 3) ∧ decode cX7_tray 85 = .ok (.ireturn, 1) ∧ decode cX7_tray 86 = .ok (.iconst (-1), 1) ∧ decode cX7_tray 87 = .ok (.ireturn, 1) ∧ True := dq_of (l := (0, .iload_n 1, 1) :: (1, .iconst 4, 1) :: (2, .invokestatic 40, 3) :: (5, .ifCond .ne 5, 3) :: (8, .iconst (-1), 1) :: (9, .ireturn, 1) :: (10, .aload_n 0, 1) :: (11, .getfield 12, 3) :: (14, .getfield 48, 3) :: (17, .astore_n 3, 1) :: (18, .iload_n 2, 1) :: (19, .tableswitch 67 0 3 #[29, 36, 43, 50], 29) :: (48, .aload_n 3, 1) :: (49, .getfield 69, 3) :: (52, .iload_n 1, 1) :: (53, .iaload, 1) :: (54, .ireturn, 1) :: (55, .aload_n 3, 1) :: (56, .getfield 72, 3) :: (59, .iload_n 1, 1) :: (60, .iaload, 1) :: (61, .ireturn, 1) :: (62, .aload_n 3, 1) :: (63, .getfield 52, 3) :: (66, .iload_n 1, 1) :: (67, .iaload, 1) :: (68, .ireturn, 1) :: (69, .aload_n 3, 1) :: (70, .aload_n 3, 1) :: (71, .getfield 69, 3) :: (74, .iload_n 1, 1) :: (75, .iaload, 1) :: (76, .aload_n 3, 1) :: (77, .getfield 72, 3) :: (80, .iload_n 1, 1) :: (81, .iaload, 1) :: (82, .invokevirtual 75, 3) :: (85, .ireturn, 1) :: (86, .iconst (-1), 1) :: (87, .ireturn, 1) :: []) (by decide +kernel)
set_option maxRecDepth 100000 in
theorem D_X7_staples : decode cX7_staples 0 = .ok (.iload_n 1, 1) ∧ decode cX7_staples 1 = .ok (.iconst 0, 1) ∧ decode cX7_staples 2 = .ok (.sipush 5000, 3) ∧ decode cX7_staples 5 = .ok (.invokestatic 44, 3) ∧ decode cX7_staples 8 = .ok (.ifCond .ne 5, 3) ∧ decode cX7_staples 11 = .ok (.iconst (-1), 1) ∧ decode cX7_staples 12 = .ok (.ireturn, 1) ∧ decode cX7_staples 13 = .ok (.aload_n 0, 1) ∧ decode cX7_staples 14 = .ok (.getfield 22, 3) ∧ decode cX7_staples 17 = .ok (.aload_n 0, 1) ∧ decode cX7_staples 18 = .ok (.getfield 12, 3) ∧ decode cX7_staples 21 = .ok (.invokevirtual 58, 3) ∧ decode cX7_staples 24 = .ok (.aload_n 0, 1) ∧ decode cX7_staples 25 = .ok (.getfield 12, 3) ∧ decode cX7_staples 28 = .ok (.getfield 79, 3) ∧ decode cX7_staples 31 = .ok (.istore_n 2, 1) ∧ decode cX7_staples 32 = .ok (.aload_n 0, 1) ∧ decode cX7_staples 33 = .ok (.getfield 12, 3) ∧ decode cX7_staples 36 = .ok (.iload_n 1, 1) ∧ decode cX7_staples 37 = .ok (.putfield 79, 3) ∧ decode cX7_staples 40 = .ok (.iload_n 2, 1) ∧ decode cX7_staples 41 = .ok (.ireturn, 1) ∧ True := dq_of (l := (0, .iload_n 1, 1) :: (1, .iconst 0, 1) :: (2, .sipush 5000, 3) :: (5, .invokestatic 44, 3) :: (8, .ifCond .ne 5, 3) :: (11, .iconst (-1), 1) :: (12, .ireturn, 1) :: (13, .aload_n 0, 1) :: (14, .getfield 22, 3) :: (17, .aload_n 0, 1) :: (18, .getfield 12, 3) :: (21, .invokevirtual 58, 3) :: (24, .aload_n 0, 1) :: (25, .getfield 12, 3) :: (28, .getfield 79, 3) :: (31, .istore_n 2, 1) :: (32, .aload_n 0, 1) :: (33, .getfield 12, 3) :: (36, .iload_n 1, 1) :: (37, .putfield 79, 3) :: (40, .iload_n 2, 1) :: (41, .ireturn, 1) :: []) (by decide +kernel)
set_option maxRecDepth 100000 in
theorem D_X7_emptyBin : decode cX7_emptyBin 0 = .ok (.aload_n 0, 1) ∧ decode cX7_emptyBin 1 = .ok (.getfield 22, 3) ∧ decode cX7_emptyBin 4 = .ok (.aload_n 0, 1) ∧ decode cX7_emptyBin 5 = .ok (.getfield 12, 3) ∧ decode cX7_emptyBin 8 = .ok (.invokevirtual 58, 3) ∧ decode cX7_emptyBin 11 = .ok (.aload_n 0, 1) ∧ decode cX7_emptyBin 12 = .ok (.getfield 12, 3) ∧ decode cX7_emptyBin 15 = .ok (.getfield 83, 3) ∧ decode cX7_emptyBin 18 = .ok (.istore_n 1, 1) ∧ decode cX7_emptyBin 19 = .ok (.aload_n 0, 1) ∧ decode cX7_emptyBin 20 = .ok (.getfield 12, 3) ∧ decode cX7_emptyBin 23 = .ok (.iconst 0, 1) ∧ decode cX7_emptyBin 24 = .ok (.putfield 83, 3) ∧ decode cX7_emptyBin 27 = .ok (.iload_n 1, 1) ∧ decode cX7_emptyBin 28 = .ok (.ireturn, 1) ∧ True := dq_of (l := (0, .aload_n 0, 1) :: (1, .getfield 22, 3) :: (4, .aload_n 0, 1) :: (5, .getfield 12, 3) :: (8, .invokevirtual 58, 3) :: (11, .aload_n 0, 1) :: (12, .getfield 12, 3) :: (15, .getfield 83, 3) :: (18, .istore_n 1, 1) :: (19, .aload_n 0, 1) :: (20, .getfield 12, 3) :: (23, .iconst 0, 1) :: (24, .putfield 83, 3) :: (27, .iload_n 1, 1) :: (28, .ireturn, 1) :: []) (by decide +kernel)
set_option maxRecDepth 100000 in
theorem D_X7_set : decode cX7_set 0 = .ok (.iload_n 1, 1) ∧ decode cX7_set 1 = .ok (.bipush 6, 2) ∧ decode cX7_set 3 = .ok (.invokestatic 40, 3) ∧ decode cX7_set 6 = .ok (.ifCond .eq 20, 3) ∧ decode cX7_set 9 = .ok (.iload_n 2, 1) ∧ decode cX7_set 10 = .ok (.getstatic 86, 3) ∧ decode cX7_set 13 = .ok (.iload_n 1, 1) ∧ decode cX7_set 14 = .ok (.iaload, 1) ∧ decode cX7_set 15 = .ok (.getstatic 89, 3) ∧ decode cX7_set 18 = .ok (.iload_n 1, 1) ∧ decode cX7_set 19 = .ok (.iaload, 1) ∧ decode cX7_set 20 = .ok (.invokestatic 44, 3) ∧ decode cX7_set 23 = .ok (.ifCond .ne 5, 3) ∧ decode cX7_set 26 = .ok (.iconst (-1), 1) ∧ decode cX7_set 27 = .ok (.ireturn, 1) ∧ decode cX7_set 28 = .ok (.aload_n 0, 1) ∧ decode cX7_set 29 = .ok (.getfield 22, 3) ∧ decode cX7_set 32 = .ok (.aload_n 0, 1) ∧ decode cX7_set 33 = .ok (.getfield 12, 3) ∧ decode cX7_set 36 = .ok (.invokevirtual 58, 3) ∧ decode cX7_set 39 = .ok (.aload_n 0, 1) ∧ decode cX7_set 40 = .ok (.getfield 12, 3) ∧ decode cX7_set 43 = .ok (.getfield 92, 3) ∧ decode cX7_set 46 = .ok (.iload_n 1, 1) ∧ decode cX7_set 47 = .ok (.iaload, 1) ∧ decode cX7_set 48 = .ok (.istore_n 3, 1) ∧ decode cX7_set 49 = .ok (.aload_n 0, 1) ∧ decode cX7_set 50 = .ok (.getfield 12, 3) ∧ decode cX7_set 53 = .ok (.getfield 92, 3) ∧ decode cX7_set 56 = .ok (.iload_n 1, 1) ∧ decode cX7_set 57 = .ok (.iload_n 2, 1) ∧ decode cX7_set 58 = .ok (.iastore, 1) ∧ decode cX7_set 59 = .ok (.iload_n 3, 1) ∧ decode cX7_set 60 = .ok (.ireturn, 1) ∧ True := dq_of (l := (0, .iload_n 1, 1) :: (1, .bipush 6, 2) :: (3, .invokestatic 40, 3) :: (6, .ifCond .eq 20, 3) :: (9, .iload_n 2, 1) :: (10, .getstatic 86, 3) :: (13, .iload_n 1, 1) :: (14, .iaload, 1) :: (15, .getstatic 89, 3) :: (18, .iload_n 1, 1) :: (19, .iaload, 1) :: (20, .invokestatic 44, 3) :: (23, .ifCond .ne 5, 3) :: (26, .iconst (-1), 1) :: (27, .ireturn, 1) :: (28, .aload_n 0, 1) :: (29, .getfield 22, 3) :: (32, .aload_n 0, 1) :: (33, .getfield 12, 3) :: (36, .invokevirtual 58, 3) :: (39, .aload_n 0, 1) :: (40, .getfield 12, 3) :: (43, .getfield 92, 3) :: (46, .iload_n 1, 1) :: (47, .iaload, 1) :: (48, .istore_n 3, 1) :: (49, .aload_n 0, 1) :: (50, .getfield 12, 3) :: (53, .getfield 92, 3) :: (56, .iload_n 1, 1) :: (57, .iload_n 2, 1) :: (58, .iastore, 1) :: (59, .iload_n 3, 1) :: (60, .ireturn, 1) :: []) (by decide +kernel)
set_option maxRecDepth 100000 in
theorem D_X7_job : decode cX7_job 0 = .ok (.iload_n 3, 1) ∧ decode cX7_job 1 = .ok (.iload 4, 2) ∧ decode cX7_job 3 = .ok (.invokestatic 62, 3) ∧ decode cX7_job 6 = .ok (.ifCond .eq 14, 3) ∧ decode cX7_job 9 = .ok (.iload 5, 2) ∧ decode cX7_job 11 = .ok (.iconst 0, 1) ∧ decode cX7_job 12 = .ok (.bipush 11, 2) ∧ decode cX7_job 14 = .ok (.invokestatic 44, 3) ∧ decode cX7_job 17 = .ok (.ifCond .ne 5, 3) ∧ decode cX7_job 20 = .ok (.iconst (-1), 1) ∧ decode cX7_job 21 = .ok (.ireturn, 1) ∧ decode cX7_job 22 = .ok (.aload_n 0, 1) ∧ decode cX7_job 23 = .ok (.getfield 36, 3) ∧ decode cX7_job 26 = .ok (.iload_n 1, 1) ∧ decode cX7_job 27 = .ok (.iload_n 2, 1) ∧ decode cX7_job 28 = .ok (.iload_n 3, 1) ∧ decode cX7_job 29 = .ok (.iload 4, 2) ∧ decode cX7_job 31 = .ok (.iload 5, 2) ∧ decode cX7_job 33 = .ok (.invokevirtual 95, 3) ∧ decode cX7_job 36 = .ok (.aload_n 0, 1) ∧ decode cX7_job 37 = .ok (.getfield 36, 3) ∧ decode cX7_job 40 = .ok (.invokevirtual 99, 3) ∧ decode cX7_job 43 = .ok (.ifCond .ne 5, 3) ∧ decode cX7_job 46 = .ok (.iconst (-1), 1) ∧ decode cX7_job 47 = .ok (.ireturn, 1) ∧ decode cX7_job 48 = .ok (.aload_n 0, 1) ∧ decode cX7_job 49 = .ok (.getfield 36, 3) ∧ decode cX7_job 52 = .ok (.aload_n 0, 1) ∧ decode cX7_job 53 = .ok (.getfield 12, 3) ∧ decode cX7_job 56 = .ok (.getfield 92, 3) ∧ decode cX7_job 59 = .ok (.iconst 3, 1) ∧ decode cX7_job 60 = .ok (.iaload, 1) ∧ decode cX7_job 61 = .ok (.invokevirtual 103, 3) ∧ decode cX7_job 64 = .ok (.istore 6, 2) ∧ decode cX7_job 66 = .ok (.iload 6, 2) ∧ decode cX7_job 68 = .ok (.ifCond .eq 12, 3) ∧ decode cX7_job 71 = .ok (.aload_n 0, 1) ∧ decode cX7_job 72 = .ok (.iload 6, 2) ∧ decode cX7_job 74 = .ok (.putfield 107, 3) ∧ decode cX7_job 77 = .ok (.bipush (-2), 2) ∧ decode cX7_job 79 = .ok (.ireturn, 1) ∧ decode cX7_job 80 = .ok (.aload_n 0, 1) ∧ decode cX7_job 81 = .ok (.getfield 12, 3) ∧ decode cX7_job 84 = .ok (.getfield 110, 3) ∧ decode cX7_job 87 = .ok (.invokevirtual 114, 3) ∧ decode cX7_job 90 = .ok (.iconst 1, 1) ∧ decode cX7_job 91 = .ok (.if_icmp .ge 6, 3) ∧ decode cX7_job 94 = .ok (.bipush (-3), 2) ∧ decode cX7_job 96 = .ok (.ireturn, 1) ∧ decode cX7_job 97 = .ok (.aload_n 0, 1) ∧ decode cX7_job 98 = .ok (.getfield 22, 3) ∧ decode cX7_job 101 = .ok (.aload_n 0, 1) ∧ decode cX7_job 102 = .ok (.getfield 12, 3) ∧ decode cX7_job 105 = .ok (.invokevirtual 58, 3) ∧ decode cX7_job 108 = .ok (.aload_n 0, 1) ∧ decode cX7_job 109 = .ok (.getfield 12, 3) ∧ decode cX7_job 112 = .ok (.getfield 110, 3) ∧ decode cX7_job 115 = .ok (.aload_n 0, 1) ∧ decode cX7_job 116 = .ok (.getfield 36, 3) ∧ decode cX7_job 119 = .ok (.invokevirtual 120, 3) ∧ decode cX7_job 122 = .ok (.ireturn, 1) ∧ True := dq_of (l := (0, .iload_n 3, 1) :: (1, .iload 4, 2) :: (3, .invokestatic 62, 3) :: (6, .ifCond .eq 14, 3) :: (9, .iload 5, 2) :: (11, .iconst 0, 1) :: (12, .bipush 11, 2) :: (14, .invokestatic 44, 3) :: (17, .ifCond .ne 5, 3) :: (20, .iconst (-1), 1) :: (21, .ireturn, 1) :: (22, .aload_n 0, 1) :: (23, .getfield 36, 3) :: (26, .iload_n 1, 1) :: (27, .iload_n 2, 1) :: (28, .iload_n 3, 1) :: (29, .iload 4, 2) :: (31, .iload 5, 2) :: (33, .invokevirtual 95, 3) :: (36, .aload_n 0, 1) :: (37, .getfield 36, 3) :: (40, .invokevirtual 99, 3) :: (43, .ifCond .ne 5, 3) :: (46, .iconst (-1), 1) :: (47, .ireturn, 1) :: (48, .aload_n 0, 1) :: (49, .getfield 36, 3) :: (52, .aload_n 0, 1) :: (53, .getfield 12, 3) :: (56, .getfield 92, 3) :: (59, .iconst 3, 1) :: (60, .iaload, 1) :: (61, .invokevirtual 103, 3) :: (64, .istore 6, 2) :: (66, .iload 6, 2) :: (68, .ifCond .eq 12, 3) :: (71, .aload_n 0, 1) :: (72, .iload 6, 2) :: (74, .putfield 107, 3) :: (77, .bipush (-2), 2) :: (79, .ireturn, 1) :: (80, .aload_n 0, 1) :: (81, .getfield 12, 3) :: (84, .getfield 110, 3) :: (87, .invokevirtual 114, 3) :: (90, .iconst 1, 1) :: (91, .if_icmp .ge 6, 3) :: (94, .bipush (-3), 2) :: (96, .ireturn, 1) :: (97, .aload_n 0, 1) :: (98, .getfield 22, 3) :: (101, .aload_n 0, 1) :: (102, .getfield 12, 3) :: (105, .invokevirtual 58, 3) :: (108, .aload_n 0, 1) :: (109, .getfield 12, 3) :: (112, .getfield 110, 3) :: (115, .aload_n 0, 1) :: (116, .getfield 36, 3) :: (119, .invokevirtual 120, 3) :: (122, .ireturn, 1) :: []) (by decide +kernel)
set_option maxRecDepth 100000 in
theorem D_X7_refusal : decode cX7_refusal 0 = .ok (.aload_n 0, 1) ∧ decode cX7_refusal 1 = .ok (.getfield 107, 3) ∧ decode cX7_refusal 4 = .ok (.ifCond .ne 8, 3) ∧ decode cX7_refusal 7 = .ok (.bipush (-4), 2) ∧ decode cX7_refusal 9 = .ok (.goto 7, 3) ∧ decode cX7_refusal 12 = .ok (.aload_n 0, 1) ∧ decode cX7_refusal 13 = .ok (.getfield 107, 3) ∧ decode cX7_refusal 16 = .ok (.ireturn, 1) ∧ True := dq_of (l := (0, .aload_n 0, 1) :: (1, .getfield 107, 3) :: (4, .ifCond .ne 8, 3) :: (7, .bipush (-4), 2) :: (9, .goto 7, 3) :: (12, .aload_n 0, 1) :: (13, .getfield 107, 3) :: (16, .ireturn, 1) :: []) (by decide +kernel)
set_option maxRecDepth 100000 in
theorem D_X7_hold : decode cX7_hold 0 = .ok (.iload_n 1, 1) ∧ decode cX7_hold 1 = .ok (.ifCond .lt 12, 3) ∧ decode cX7_hold 4 = .ok (.iload_n 2, 1) ∧ decode cX7_hold 5 = .ok (.iconst 0, 1) ∧ decode cX7_hold 6 = .ok (.iconst 1, 1) ∧ decode cX7_hold 7 = .ok (.invokestatic 44, 3) ∧ decode cX7_hold 10 = .ok (.ifCond .ne 5, 3) ∧ decode cX7_hold 13 = .ok (.iconst (-1), 1) ∧ decode cX7_hold 14 = .ok (.ireturn, 1) ∧ decode cX7_hold 15 = .ok (.aload_n 0, 1) ∧ decode cX7_hold 16 = .ok (.getfield 12, 3) ∧ decode cX7_hold 19 = .ok (.getfield 110, 3) ∧ decode cX7_hold 22 = .ok (.iload_n 1, 1) ∧ decode cX7_hold 23 = .ok (.invokevirtual 124, 3) ∧ decode cX7_hold 26 = .ok (.astore_n 3, 1) ∧ decode cX7_hold 27 = .ok (.aload_n 3, 1) ∧ decode cX7_hold 28 = .ok (.ifnonnull 6, 3) ∧ decode cX7_hold 31 = .ok (.bipush (-4), 2) ∧ decode cX7_hold 33 = .ok (.ireturn, 1) ∧ decode cX7_hold 34 = .ok (.aload_n 0, 1) ∧ decode cX7_hold 35 = .ok (.getfield 22, 3) ∧ decode cX7_hold 38 = .ok (.aload_n 0, 1) ∧ decode cX7_hold 39 = .ok (.getfield 12, 3) ∧ decode cX7_hold 42 = .ok (.invokevirtual 58, 3) ∧ decode cX7_hold 45 = .ok (.aload_n 3, 1) ∧ decode cX7_hold 46 = .ok (.getfield 128, 3) ∧ decode cX7_hold 49 = .ok (.ifCond .eq 7, 3) ∧ decode cX7_hold 52 = .ok (.iconst 1, 1) ∧ decode cX7_hold 53 = .ok (.goto 4, 3) ∧ decode cX7_hold 56 = .ok (.iconst 0, 1) ∧ decode cX7_hold 57 = .ok (.istore 4, 2) ∧ decode cX7_hold 59 = .ok (.aload_n 3, 1) ∧ decode cX7_hold 60 = .ok (.iload_n 2, 1) ∧ decode cX7_hold 61 = .ok (.iconst 1, 1) ∧ decode cX7_hold 62 = .ok (.if_icmp .ne 7, 3) ∧ decode cX7_hold 65 = .ok (.iconst 1, 1) ∧ decode cX7_hold 66 = .ok (.goto 4, 3) ∧ decode cX7_hold 69 = .ok (.iconst 0, 1) ∧ decode cX7_hold 70 = .ok (.putfield 128, 3) ∧ decode cX7_hold 73 = .ok (.aload_n 3, 1) ∧ decode cX7_hold 74 = .ok (.getfield 128, 3) ∧ decode cX7_hold 77 = .ok (.ifCond .eq 11, 3) ∧ decode cX7_hold 80 = .ok (.aload_n 0, 1) ∧ decode cX7_hold 81 = .ok (.getfield 12, 3) ∧ decode cX7_hold 84 = .ok (.aload_n 3, 1) ∧ decode cX7_hold 85 = .ok (.invokevirtual 132, 3) ∧ decode cX7_hold 88 = .ok (.iload 4, 2) ∧ decode cX7_hold 90 = .ok (.ireturn, 1) ∧ True := dq_of (l := (0, .iload_n 1, 1) :: (1, .ifCond .lt 12, 3) :: (4, .iload_n 2, 1) :: (5, .iconst 0, 1) :: (6, .iconst 1, 1) :: (7, .invokestatic 44, 3) :: (10, .ifCond .ne 5, 3) :: (13, .iconst (-1), 1) :: (14, .ireturn, 1) :: (15, .aload_n 0, 1) :: (16, .getfield 12, 3) :: (19, .getfield 110, 3) :: (22, .iload_n 1, 1) :: (23, .invokevirtual 124, 3) :: (26, .astore_n 3, 1) :: (27, .aload_n 3, 1) :: (28, .ifnonnull 6, 3) :: (31, .bipush (-4), 2) :: (33, .ireturn, 1) :: (34, .aload_n 0, 1) :: (35, .getfield 22, 3) :: (38, .aload_n 0, 1) :: (39, .getfield 12, 3) :: (42, .invokevirtual 58, 3) :: (45, .aload_n 3, 1) :: (46, .getfield 128, 3) :: (49, .ifCond .eq 7, 3) :: (52, .iconst 1, 1) :: (53, .goto 4, 3) :: (56, .iconst 0, 1) :: (57, .istore 4, 2) :: (59, .aload_n 3, 1) :: (60, .iload_n 2, 1) :: (61, .iconst 1, 1) :: (62, .if_icmp .ne 7, 3) :: (65, .iconst 1, 1) :: (66, .goto 4, 3) :: (69, .iconst 0, 1) :: (70, .putfield 128, 3) :: (73, .aload_n 3, 1) :: (74, .getfield 128, 3) :: (77, .ifCond .eq 11, 3) :: (80, .aload_n 0, 1) :: (81, .getfield 12, 3) :: (84, .aload_n 3, 1) :: (85, .invokevirtual 132, 3) :: (88, .iload 4, 2) :: (90, .ireturn, 1) :: []) (by decide +kernel)
set_option maxRecDepth 100000 in
theorem D_X7_cancel : decode cX7_cancel 0 = .ok (.iload_n 1, 1) ∧ decode cX7_cancel 1 = .ok (.ifCond .ge 5, 3) ∧ decode cX7_cancel 4 = .ok (.iconst (-1), 1) ∧ decode cX7_cancel 5 = .ok (.ireturn, 1) ∧ decode cX7_cancel 6 = .ok (.aload_n 0, 1) ∧ decode cX7_cancel 7 = .ok (.getfield 12, 3) ∧ decode cX7_cancel 10 = .ok (.getfield 110, 3) ∧ decode cX7_cancel 13 = .ok (.iload_n 1, 1) ∧ decode cX7_cancel 14 = .ok (.invokevirtual 124, 3) ∧ decode cX7_cancel 17 = .ok (.astore_n 2, 1) ∧ decode cX7_cancel 18 = .ok (.aload_n 2, 1) ∧ decode cX7_cancel 19 = .ok (.ifnonnull 6, 3) ∧ decode cX7_cancel 22 = .ok (.bipush (-4), 2) ∧ decode cX7_cancel 24 = .ok (.ireturn, 1) ∧ decode cX7_cancel 25 = .ok (.aload_n 0, 1) ∧ decode cX7_cancel 26 = .ok (.getfield 22, 3) ∧ decode cX7_cancel 29 = .ok (.aload_n 0, 1) ∧ decode cX7_cancel 30 = .ok (.getfield 12, 3) ∧ decode cX7_cancel 33 = .ok (.invokevirtual 58, 3) ∧ decode cX7_cancel 36 = .ok (.aload_n 2, 1) ∧ decode cX7_cancel 37 = .ok (.getfield 136, 3) ∧ decode cX7_cancel 40 = .ok (.istore_n 3, 1) ∧ decode cX7_cancel 41 = .ok (.aload_n 0, 1) ∧ decode cX7_cancel 42 = .ok (.getfield 12, 3) ∧ decode cX7_cancel 45 = .ok (.aload_n 2, 1) ∧ decode cX7_cancel 46 = .ok (.invokevirtual 132, 3) ∧ decode cX7_cancel 49 = .ok (.aload_n 0, 1) ∧ decode cX7_cancel 50 = .ok (.getfield 12, 3) ∧ decode cX7_cancel 53 = .ok (.getfield 110, 3) ∧ decode cX7_cancel 56 = .ok (.aload_n 2, 1) ∧ decode cX7_cancel 57 = .ok (.invokevirtual 139, 3) ∧ decode cX7_cancel 60 = .ok (.aload_n 0, 1) ∧ decode cX7_cancel 61 = .ok (.getfield 12, 3) ∧ decode cX7_cancel 64 = .ok (.getfield 142, 3) ∧ decode cX7_cancel 67 = .ok (.bipush 6, 2) ∧ decode cX7_cancel 69 = .ok (.iconst 1, 1) ∧ decode cX7_cancel 70 = .ok (.invokevirtual 146, 3) ∧ decode cX7_cancel 73 = .ok (.iload_n 3, 1) ∧ decode cX7_cancel 74 = .ok (.ireturn, 1) ∧ True := dq_of (l := (0, .iload_n 1, 1) :: (1, .ifCond .ge 5, 3) :: (4, .iconst (-1), 1) :: (5, .ireturn, 1) :: (6, .aload_n 0, 1) :: (7, .getfield 12, 3) :: (10, .getfield 110, 3) :: (13, .iload_n 1, 1) :: (14, .invokevirtual 124, 3) :: (17, .astore_n 2, 1) :: (18, .aload_n 2, 1) :: (19, .ifnonnull 6, 3) :: (22, .bipush (-4), 2) :: (24, .ireturn, 1) :: (25, .aload_n 0, 1) :: (26, .getfield 22, 3) :: (29, .aload_n 0, 1) :: (30, .getfield 12, 3) :: (33, .invokevirtual 58, 3) :: (36, .aload_n 2, 1) :: (37, .getfield 136, 3) :: (40, .istore_n 3, 1) :: (41, .aload_n 0, 1) :: (42, .getfield 12, 3) :: (45, .aload_n 2, 1) :: (46, .invokevirtual 132, 3) :: (49, .aload_n 0, 1) :: (50, .getfield 12, 3) :: (53, .getfield 110, 3) :: (56, .aload_n 2, 1) :: (57, .invokevirtual 139, 3) :: (60, .aload_n 0, 1) :: (61, .getfield 12, 3) :: (64, .getfield 142, 3) :: (67, .bipush 6, 2) :: (69, .iconst 1, 1) :: (70, .invokevirtual 146, 3) :: (73, .iload_n 3, 1) :: (74, .ireturn, 1) :: []) (by decide +kernel)
set_option maxRecDepth 100000 in
theorem D_X7_priority : decode cX7_priority 0 = .ok (.iload_n 1, 1) ∧ decode cX7_priority 1 = .ok (.ifCond .lt 13, 3) ∧ decode cX7_priority 4 = .ok (.iload_n 2, 1) ∧ decode cX7_priority 5 = .ok (.iconst 0, 1) ∧ decode cX7_priority 6 = .ok (.bipush 9, 2) ∧ decode cX7_priority 8 = .ok (.invokestatic 44, 3) ∧ decode cX7_priority 11 = .ok (.ifCond .ne 5, 3) ∧ decode cX7_priority 14 = .ok (.iconst (-1), 1) ∧ decode cX7_priority 15 = .ok (.ireturn, 1) ∧ decode cX7_priority 16 = .ok (.aload_n 0, 1) ∧ decode cX7_priority 17 = .ok (.getfield 12, 3) ∧ decode cX7_priority 20 = .ok (.getfield 110, 3) ∧ decode cX7_priority 23 = .ok (.iload_n 1, 1) ∧ decode cX7_priority 24 = .ok (.invokevirtual 124, 3) ∧ decode cX7_priority 27 = .ok (.astore_n 3, 1) ∧ decode cX7_priority 28 = .ok (.aload_n 3, 1) ∧ decode cX7_priority 29 = .ok (.ifnonnull 6, 3) ∧ decode cX7_priority 32 = .ok (.bipush (-4), 2) ∧ decode cX7_priority 34 = .ok (.ireturn, 1) ∧ decode cX7_priority 35 = .ok (.aload_n 0, 1) ∧ decode cX7_priority 36 = .ok (.getfield 22, 3) ∧ decode cX7_priority 39 = .ok (.aload_n 0, 1) ∧ decode cX7_priority 40 = .ok (.getfield 12, 3) ∧ decode cX7_priority 43 = .ok (.invokevirtual 58, 3) ∧ decode cX7_priority 46 = .ok (.aload_n 3, 1) ∧ decode cX7_priority 47 = .ok (.getfield 152, 3) ∧ decode cX7_priority 50 = .ok (.istore 4, 2) ∧ decode cX7_priority 52 = .ok (.aload_n 3, 1) ∧ decode cX7_priority 53 = .ok (.iload_n 2, 1) ∧ decode cX7_priority 54 = .ok (.putfield 152, 3) ∧ decode cX7_priority 57 = .ok (.iload 4, 2) ∧ decode cX7_priority 59 = .ok (.ireturn, 1) ∧ True := dq_of (l := (0, .iload_n 1, 1) :: (1, .ifCond .lt 13, 3) :: (4, .iload_n 2, 1) :: (5, .iconst 0, 1) :: (6, .bipush 9, 2) :: (8, .invokestatic 44, 3) :: (11, .ifCond .ne 5, 3) :: (14, .iconst (-1), 1) :: (15, .ireturn, 1) :: (16, .aload_n 0, 1) :: (17, .getfield 12, 3) :: (20, .getfield 110, 3) :: (23, .iload_n 1, 1) :: (24, .invokevirtual 124, 3) :: (27, .astore_n 3, 1) :: (28, .aload_n 3, 1) :: (29, .ifnonnull 6, 3) :: (32, .bipush (-4), 2) :: (34, .ireturn, 1) :: (35, .aload_n 0, 1) :: (36, .getfield 22, 3) :: (39, .aload_n 0, 1) :: (40, .getfield 12, 3) :: (43, .invokevirtual 58, 3) :: (46, .aload_n 3, 1) :: (47, .getfield 152, 3) :: (50, .istore 4, 2) :: (52, .aload_n 3, 1) :: (53, .iload_n 2, 1) :: (54, .putfield 152, 3) :: (57, .iload 4, 2) :: (59, .ireturn, 1) :: []) (by decide +kernel)
set_option maxRecDepth 100000 in
theorem D_X7_jobInfo : decode cX7_jobInfo 0 = .ok (.iload_n 1, 1) ∧ decode cX7_jobInfo 1 = .ok (.ifCond .lt 12, 3) ∧ decode cX7_jobInfo 4 = .ok (.iload_n 2, 1) ∧ decode cX7_jobInfo 5 = .ok (.bipush 13, 2) ∧ decode cX7_jobInfo 7 = .ok (.invokestatic 40, 3) ∧ decode cX7_jobInfo 10 = .ok (.ifCond .ne 5, 3) ∧ decode cX7_jobInfo 13 = .ok (.iconst (-1), 1) ∧ decode cX7_jobInfo 14 = .ok (.ireturn, 1) ∧ decode cX7_jobInfo 15 = .ok (.aload_n 0, 1) ∧ decode cX7_jobInfo 16 = .ok (.getfield 12, 3) ∧ decode cX7_jobInfo 19 = .ok (.getfield 110, 3) ∧ decode cX7_jobInfo 22 = .ok (.iload_n 1, 1) ∧ decode cX7_jobInfo 23 = .ok (.invokevirtual 124, 3) ∧ decode cX7_jobInfo 26 = .ok (.astore_n 3, 1) ∧ decode cX7_jobInfo 27 = .ok (.aload_n 3, 1) ∧ decode cX7_jobInfo 28 = .ok (.ifnonnull 8, 3) ∧ decode cX7_jobInfo 31 = .ok (.bipush (-4), 2) ∧ decode cX7_jobInfo 33 = .ok (.goto 8, 3) ∧ decode cX7_jobInfo 36 = .ok (.aload_n 3, 1) ∧ decode cX7_jobInfo 37 = .ok (.iload_n 2, 1) ∧ decode cX7_jobInfo 38 = .ok (.invokevirtual 155, 3) ∧ decode cX7_jobInfo 41 = .ok (.ireturn, 1) ∧ True := dq_of (l := (0, .iload_n 1, 1) :: (1, .ifCond .lt 12, 3) :: (4, .iload_n 2, 1) :: (5, .bipush 13, 2) :: (7, .invokestatic 40, 3) :: (10, .ifCond .ne 5, 3) :: (13, .iconst (-1), 1) :: (14, .ireturn, 1) :: (15, .aload_n 0, 1) :: (16, .getfield 12, 3) :: (19, .getfield 110, 3) :: (22, .iload_n 1, 1) :: (23, .invokevirtual 124, 3) :: (26, .astore_n 3, 1) :: (27, .aload_n 3, 1) :: (28, .ifnonnull 8, 3) :: (31, .bipush (-4), 2) :: (33, .goto 8, 3) :: (36, .aload_n 3, 1) :: (37, .iload_n 2, 1) :: (38, .invokevirtual 155, 3) :: (41, .ireturn, 1) :: []) (by decide +kernel)
set_option maxRecDepth 100000 in
theorem D_X7_queued : decode cX7_queued 0 = .ok (.iload_n 1, 1) ∧ decode cX7_queued 1 = .ok (.ifCond .ge 5, 3) ∧ decode cX7_queued 4 = .ok (.iconst (-1), 1) ∧ decode cX7_queued 5 = .ok (.ireturn, 1) ∧ decode cX7_queued 6 = .ok (.aload_n 0, 1) ∧ decode cX7_queued 7 = .ok (.getfield 12, 3) ∧ decode cX7_queued 10 = .ok (.getfield 110, 3) ∧ decode cX7_queued 13 = .ok (.iload_n 1, 1) ∧ decode cX7_queued 14 = .ok (.invokevirtual 158, 3) ∧ decode cX7_queued 17 = .ok (.astore_n 2, 1) ∧ decode cX7_queued 18 = .ok (.aload_n 2, 1) ∧ decode cX7_queued 19 = .ok (.ifnonnull 8, 3) ∧ decode cX7_queued 22 = .ok (.bipush (-4), 2) ∧ decode cX7_queued 24 = .ok (.goto 7, 3) ∧ decode cX7_queued 27 = .ok (.aload_n 2, 1) ∧ decode cX7_queued 28 = .ok (.getfield 161, 3) ∧ decode cX7_queued 31 = .ok (.ireturn, 1) ∧ True := dq_of (l := (0, .iload_n 1, 1) :: (1, .ifCond .ge 5, 3) :: (4, .iconst (-1), 1) :: (5, .ireturn, 1) :: (6, .aload_n 0, 1) :: (7, .getfield 12, 3) :: (10, .getfield 110, 3) :: (13, .iload_n 1, 1) :: (14, .invokevirtual 158, 3) :: (17, .astore_n 2, 1) :: (18, .aload_n 2, 1) :: (19, .ifnonnull 8, 3) :: (22, .bipush (-4), 2) :: (24, .goto 7, 3) :: (27, .aload_n 2, 1) :: (28, .getfield 161, 3) :: (31, .ireturn, 1) :: []) (by decide +kernel)
set_option maxRecDepth 100000 in
theorem D_X7_run : decode cX7_run 0 = .ok (.iload_n 1, 1) ∧ decode cX7_run 1 = .ok (.iconst 1, 1) ∧ decode cX7_run 2 = .ok (.sipush 5000, 3) ∧ decode cX7_run 5 = .ok (.invokestatic 44, 3) ∧ decode cX7_run 8 = .ok (.ifCond .ne 5, 3) ∧ decode cX7_run 11 = .ok (.iconst (-1), 1) ∧ decode cX7_run 12 = .ok (.ireturn, 1) ∧ decode cX7_run 13 = .ok (.aload_n 0, 1) ∧ decode cX7_run 14 = .ok (.getfield 12, 3) ∧ decode cX7_run 17 = .ok (.getfield 142, 3) ∧ decode cX7_run 20 = .ok (.getfield 164, 3) ∧ decode cX7_run 23 = .ok (.bipush 8, 2) ∧ decode cX7_run 25 = .ok (.iaload, 1) ∧ decode cX7_run 26 = .ok (.iload_n 1, 1) ∧ decode cX7_run 27 = .ok (.iadd, 1) ∧ decode cX7_run 28 = .ok (.ldc 167, 2) ∧ decode cX7_run 30 = .ok (.if_icmp .le 6, 3) ∧ decode cX7_run 33 = .ok (.bipush (-3), 2) ∧ decode cX7_run 35 = .ok (.ireturn, 1) ∧ decode cX7_run 36 = .ok (.aload_n 0, 1) ∧ decode cX7_run 37 = .ok (.getfield 22, 3) ∧ decode cX7_run 40 = .ok (.aload_n 0, 1) ∧ decode cX7_run 41 = .ok (.getfield 12, 3) ∧ decode cX7_run 44 = .ok (.invokevirtual 58, 3) ∧ decode cX7_run 47 = .ok (.aload_n 0, 1) ∧ decode cX7_run 48 = .ok (.getfield 12, 3) ∧ decode cX7_run 51 = .ok (.getfield 142, 3) ∧ decode cX7_run 54 = .ok (.getfield 164, 3) ∧ decode cX7_run 57 = .ok (.iconst 1, 1) ∧ decode cX7_run 58 = .ok (.iaload, 1) ∧ decode cX7_run 59 = .ok (.istore_n 2, 1) ∧ decode cX7_run 60 = .ok (.aload_n 0, 1) ∧ decode cX7_run 61 = .ok (.getfield 12, 3) ∧ decode cX7_run 64 = .ok (.iload_n 1, 1) ∧ decode cX7_run 65 = .ok (.invokevirtual 168, 3) ∧ decode cX7_run 68 = .ok (.aload_n 0, 1) ∧ decode cX7_run 69 = .ok (.getfield 12, 3) ∧ decode cX7_run 72 = .ok (.getfield 142, 3) ∧ decode cX7_run 75 = .ok (.getfield 164, 3) ∧ decode cX7_run 78 = .ok (.iconst 1, 1) ∧ decode cX7_run 79 = .ok (.iaload, 1) ∧ decode cX7_run 80 = .ok (.iload_n 2, 1) ∧ decode cX7_run 81 = .ok (.isub, 1) ∧ decode cX7_run 82 = .ok (.ireturn, 1) ∧ True := dq_of (l := (0, .iload_n 1, 1) :: (1, .iconst 1, 1) :: (2, .sipush 5000, 3) :: (5, .invokestatic 44, 3) :: (8, .ifCond .ne 5, 3) :: (11, .iconst (-1), 1) :: (12, .ireturn, 1) :: (13, .aload_n 0, 1) :: (14, .getfield 12, 3) :: (17, .getfield 142, 3) :: (20, .getfield 164, 3) :: (23, .bipush 8, 2) :: (25, .iaload, 1) :: (26, .iload_n 1, 1) :: (27, .iadd, 1) :: (28, .ldc 167, 2) :: (30, .if_icmp .le 6, 3) :: (33, .bipush (-3), 2) :: (35, .ireturn, 1) :: (36, .aload_n 0, 1) :: (37, .getfield 22, 3) :: (40, .aload_n 0, 1) :: (41, .getfield 12, 3) :: (44, .invokevirtual 58, 3) :: (47, .aload_n 0, 1) :: (48, .getfield 12, 3) :: (51, .getfield 142, 3) :: (54, .getfield 164, 3) :: (57, .iconst 1, 1) :: (58, .iaload, 1) :: (59, .istore_n 2, 1) :: (60, .aload_n 0, 1) :: (61, .getfield 12, 3) :: (64, .iload_n 1, 1) :: (65, .invokevirtual 168, 3) :: (68, .aload_n 0, 1) :: (69, .getfield 12, 3) :: (72, .getfield 142, 3) :: (75, .getfield 164, 3) :: (78, .iconst 1, 1) :: (79, .iaload, 1) :: (80, .iload_n 2, 1) :: (81, .isub, 1) :: (82, .ireturn, 1) :: []) (by decide +kernel)
set_option maxRecDepth 100000 in
theorem D_X7_stop : decode cX7_stop 0 = .ok (.aload_n 0, 1) ∧ decode cX7_stop 1 = .ok (.getfield 16, 3) ∧ decode cX7_stop 4 = .ok (.aload_n 0, 1) ∧ decode cX7_stop 5 = .ok (.getfield 12, 3) ∧ decode cX7_stop 8 = .ok (.invokevirtual 172, 3) ∧ decode cX7_stop 11 = .ok (.aload_n 0, 1) ∧ decode cX7_stop 12 = .ok (.getfield 16, 3) ∧ decode cX7_stop 15 = .ok (.invokevirtual 175, 3) ∧ decode cX7_stop 18 = .ok (.ireturn, 1) ∧ True := dq_of (l := (0, .aload_n 0, 1) :: (1, .getfield 16, 3) :: (4, .aload_n 0, 1) :: (5, .getfield 12, 3) :: (8, .invokevirtual 172, 3) :: (11, .aload_n 0, 1) :: (12, .getfield 16, 3) :: (15, .invokevirtual 175, 3) :: (18, .ireturn, 1) :: []) (by decide +kernel)
set_option maxRecDepth 100000 in
theorem D_X7_count : decode cX7_count 0 = .ok (.iload_n 1, 1) ∧ decode cX7_count 1 = .ok (.bipush 17, 2) ∧ decode cX7_count 3 = .ok (.invokestatic 40, 3) ∧ decode cX7_count 6 = .ok (.ifCond .ne 5, 3) ∧ decode cX7_count 9 = .ok (.iconst (-1), 1) ∧ decode cX7_count 10 = .ok (.ireturn, 1) ∧ decode cX7_count 11 = .ok (.iload_n 1, 1) ∧ decode cX7_count 12 = .ok (.tableswitch 199 0 16 #[84, 95, 106, 117, 125, 133, 141, 149, 199, 199, 199, 199, 199, 199, 172, 183, 191], 84) ∧ decode cX7_count 96 = .ok (.aload_n 0, 1) ∧ decode cX7_count 97 = .ok (.getfield 12, 3) ∧ decode cX7_count 100 = .ok (.getfield 110, 3) ∧ decode cX7_count 103 = .ok (.getfield 178, 3) ∧ decode cX7_count 106 = .ok (.ireturn, 1) ∧ decode cX7_count 107 = .ok (.aload_n 0, 1) ∧ decode cX7_count 108 = .ok (.getfield 12, 3) ∧ decode cX7_count 111 = .ok (.getfield 110, 3) ∧ decode cX7_count 114 = .ok (.invokevirtual 181, 3) ∧ decode cX7_count 117 = .ok (.ireturn, 1) ∧ decode cX7_count 118 = .ok (.aload_n 0, 1) ∧ decode cX7_count 119 = .ok (.getfield 12, 3) ∧ decode cX7_count 122 = .ok (.getfield 110, 3) ∧ decode cX7_count 125 = .ok (.getfield 184, 3) ∧ decode cX7_count 128 = .ok (.ireturn, 1) ∧ decode cX7_count 129 = .ok (.aload_n 0, 1) ∧ decode cX7_count 130 = .ok (.getfield 12, 3) ∧ decode cX7_count 133 = .ok (.getfield 83, 3) ∧ decode cX7_count 136 = .ok (.ireturn, 1) ∧ decode cX7_count 137 = .ok (.aload_n 0, 1) ∧ decode cX7_count 138 = .ok (.getfield 12, 3) ∧ decode cX7_count 141 = .ok (.getfield 79, 3) ∧ decode cX7_count 144 = .ok (.ireturn, 1) ∧ decode cX7_count 145 = .ok (.aload_n 0, 1) ∧ decode cX7_count 146 = .ok (.getfield 12, 3) ∧ decode cX7_count 149 = .ok (.getfield 187, 3) ∧ decode cX7_count 152 = .ok (.ireturn, 1) ∧ decode cX7_count 153 = .ok (.aload_n 0, 1) ∧ decode cX7_count 154 = .ok (.getfield 12, 3) ∧ decode cX7_count 157 = .ok (.getfield 190, 3) ∧ decode cX7_count 160 = .ok (.ireturn, 1) ∧ decode cX7_count 161 = .ok (.aload_n 0, 1) ∧ decode cX7_count 162 = .ok (.getfield 12, 3) ∧ decode cX7_count 165 = .ok (.getfield 190, 3) ∧ decode cX7_count 168 = .ok (.ifCond .ne 8, 3) ∧ decode cX7_count 171 = .ok (.bipush (-4), 2) ∧ decode cX7_count 173 = .ok (.goto 10, 3) ∧ decode cX7_count 176 = .ok (.aload_n 0, 1) ∧ decode cX7_count 177 = .ok (.getfield 12, 3) ∧ decode cX7_count 180 = .ok (.getfield 193, 3) ∧ decode cX7_count 183 = .ok (.ireturn, 1) ∧ decode cX7_count 184 = .ok (.aload_n 0, 1) ∧ decode cX7_count 185 = .ok (.getfield 12, 3) ∧ decode cX7_count 188 = .ok (.getfield 142, 3) ∧ decode cX7_count 191 = .ok (.getfield 196, 3) ∧ decode cX7_count 194 = .ok (.ireturn, 1) ∧ decode cX7_count 195 = .ok (.aload_n 0, 1) ∧ decode cX7_count 196 = .ok (.getfield 22, 3) ∧ decode cX7_count 199 = .ok (.getfield 199, 3) ∧ decode cX7_count 202 = .ok (.ireturn, 1) ∧ decode cX7_count 203 = .ok (.aload_n 0, 1) ∧ decode cX7_count 204 = .ok (.getfield 29, 3) ∧ decode cX7_count 207 = .ok (.getfield 202, 3) ∧ decode cX7_count 210 = .ok (.ireturn, 1) ∧ decode cX7_count 211 = .ok (.aload_n 0, 1) ∧ decode cX7_count 212 = .ok (.iload_n 1, 1) ∧ decode cX7_count 213 = .ok (.bipush 8, 2) ∧ decode cX7_count 215 = .ok (.isub, 1) ∧ decode cX7_count 216 = .ok (.invokevirtual 205, 3) ∧ decode cX7_count 219 = .ok (.ireturn, 1) ∧ True := dq_of (l := (0, .iload_n 1, 1) :: (1, .bipush 17, 2) :: (3, .invokestatic 40, 3) :: (6, .ifCond .ne 5, 3) :: (9, .iconst (-1), 1) :: (10, .ireturn, 1) :: (11, .iload_n 1, 1) :: (12, .tableswitch 199 0 16 #[84, 95, 106, 117, 125, 133, 141, 149, 199, 199, 199, 199, 199, 199, 172, 183, 191], 84) :: (96, .aload_n 0, 1) :: (97, .getfield 12, 3) :: (100, .getfield 110, 3) :: (103, .getfield 178, 3) :: (106, .ireturn, 1) :: (107, .aload_n 0, 1) :: (108, .getfield 12, 3) :: (111, .getfield 110, 3) :: (114, .invokevirtual 181, 3) :: (117, .ireturn, 1) :: (118, .aload_n 0, 1) :: (119, .getfield 12, 3) :: (122, .getfield 110, 3) :: (125, .getfield 184, 3) :: (128, .ireturn, 1) :: (129, .aload_n 0, 1) :: (130, .getfield 12, 3) :: (133, .getfield 83, 3) :: (136, .ireturn, 1) :: (137, .aload_n 0, 1) :: (138, .getfield 12, 3) :: (141, .getfield 79, 3) :: (144, .ireturn, 1) :: (145, .aload_n 0, 1) :: (146, .getfield 12, 3) :: (149, .getfield 187, 3) :: (152, .ireturn, 1) :: (153, .aload_n 0, 1) :: (154, .getfield 12, 3) :: (157, .getfield 190, 3) :: (160, .ireturn, 1) :: (161, .aload_n 0, 1) :: (162, .getfield 12, 3) :: (165, .getfield 190, 3) :: (168, .ifCond .ne 8, 3) :: (171, .bipush (-4), 2) :: (173, .goto 10, 3) :: (176, .aload_n 0, 1) :: (177, .getfield 12, 3) :: (180, .getfield 193, 3) :: (183, .ireturn, 1) :: (184, .aload_n 0, 1) :: (185, .getfield 12, 3) :: (188, .getfield 142, 3) :: (191, .getfield 196, 3) :: (194, .ireturn, 1) :: (195, .aload_n 0, 1) :: (196, .getfield 22, 3) :: (199, .getfield 199, 3) :: (202, .ireturn, 1) :: (203, .aload_n 0, 1) :: (204, .getfield 29, 3) :: (207, .getfield 202, 3) :: (210, .ireturn, 1) :: (211, .aload_n 0, 1) :: (212, .iload_n 1, 1) :: (213, .bipush 8, 2) :: (215, .isub, 1) :: (216, .invokevirtual 205, 3) :: (219, .ireturn, 1) :: []) (by decide +kernel)
set_option maxRecDepth 100000 in
theorem D_X7_account : decode cX7_account 0 = .ok (.iload_n 1, 1) ∧ decode cX7_account 1 = .ok (.bipush 9, 2) ∧ decode cX7_account 3 = .ok (.invokestatic 40, 3) ∧ decode cX7_account 6 = .ok (.ifCond .eq 18, 3) ∧ decode cX7_account 9 = .ok (.aload_n 0, 1) ∧ decode cX7_account 10 = .ok (.getfield 12, 3) ∧ decode cX7_account 13 = .ok (.getfield 142, 3) ∧ decode cX7_account 16 = .ok (.getfield 164, 3) ∧ decode cX7_account 19 = .ok (.iload_n 1, 1) ∧ decode cX7_account 20 = .ok (.iaload, 1) ∧ decode cX7_account 21 = .ok (.goto 4, 3) ∧ decode cX7_account 24 = .ok (.iconst (-1), 1) ∧ decode cX7_account 25 = .ok (.ireturn, 1) ∧ True := dq_of (l := (0, .iload_n 1, 1) :: (1, .bipush 9, 2) :: (3, .invokestatic 40, 3) :: (6, .ifCond .eq 18, 3) :: (9, .aload_n 0, 1) :: (10, .getfield 12, 3) :: (13, .getfield 142, 3) :: (16, .getfield 164, 3) :: (19, .iload_n 1, 1) :: (20, .iaload, 1) :: (21, .goto 4, 3) :: (24, .iconst (-1), 1) :: (25, .ireturn, 1) :: []) (by decide +kernel)
set_option maxRecDepth 100000 in
theorem D_X7_paper : decode cX7_paper 0 = .ok (.iload_n 1, 1) ∧ decode cX7_paper 1 = .ok (.ifCond .lt 12, 3) ∧ decode cX7_paper 4 = .ok (.iload_n 2, 1) ∧ decode cX7_paper 5 = .ok (.iconst 0, 1) ∧ decode cX7_paper 6 = .ok (.iconst 2, 1) ∧ decode cX7_paper 7 = .ok (.invokestatic 44, 3) ∧ decode cX7_paper 10 = .ok (.ifCond .ne 5, 3) ∧ decode cX7_paper 13 = .ok (.iconst (-1), 1) ∧ decode cX7_paper 14 = .ok (.ireturn, 1) ∧ decode cX7_paper 15 = .ok (.aload_n 0, 1) ∧ decode cX7_paper 16 = .ok (.getfield 12, 3) ∧ decode cX7_paper 19 = .ok (.getfield 142, 3) ∧ decode cX7_paper 22 = .ok (.astore_n 3, 1) ∧ decode cX7_paper 23 = .ok (.iload_n 1, 1) ∧ decode cX7_paper 24 = .ok (.aload_n 3, 1) ∧ decode cX7_paper 25 = .ok (.getfield 196, 3) ∧ decode cX7_paper 28 = .ok (.if_icmp .ge 9, 3) ∧ decode cX7_paper 31 = .ok (.iload_n 1, 1) ∧ decode cX7_paper 32 = .ok (.bipush 16, 2) ∧ decode cX7_paper 34 = .ok (.if_icmp .lt 6, 3) ∧ decode cX7_paper 37 = .ok (.bipush (-4), 2) ∧ decode cX7_paper 39 = .ok (.ireturn, 1) ∧ decode cX7_paper 40 = .ok (.iload_n 2, 1) ∧ decode cX7_paper 41 = .ok (.lookupswitch 41 #[(0, 27), (1, 34)], 27) ∧ decode cX7_paper 68 = .ok (.aload_n 3, 1) ∧ decode cX7_paper 69 = .ok (.getfield 208, 3) ∧ decode cX7_paper 72 = .ok (.iload_n 1, 1) ∧ decode cX7_paper 73 = .ok (.iaload, 1) ∧ decode cX7_paper 74 = .ok (.ireturn, 1) ∧ decode cX7_paper 75 = .ok (.aload_n 3, 1) ∧ decode cX7_paper 76 = .ok (.getfield 211, 3) ∧ decode cX7_paper 79 = .ok (.iload_n 1, 1) ∧ decode cX7_paper 80 = .ok (.iaload, 1) ∧ decode cX7_paper 81 = .ok (.ireturn, 1) ∧ decode cX7_paper 82 = .ok (.aload_n 3, 1) ∧ decode cX7_paper 83 = .ok (.getfield 214, 3) ∧ decode cX7_paper 86 = .ok (.iload_n 1, 1) ∧ decode cX7_paper 87 = .ok (.iaload, 1) ∧ decode cX7_paper 88 = .ok (.ireturn, 1) ∧ True := dq_of (l := (0, .iload_n 1, 1) :: (1, .ifCond .lt 12, 3) :: (4, .iload_n 2, 1) :: (5, .iconst 0, 1) :: (6, .iconst 2, 1) :: (7, .invokestatic 44, 3) :: (10, .ifCond .ne 5, 3) :: (13, .iconst (-1), 1) :: (14, .ireturn, 1) :: (15, .aload_n 0, 1) :: (16, .getfield 12, 3) :: (19, .getfield 142, 3) :: (22, .astore_n 3, 1) :: (23, .iload_n 1, 1) :: (24, .aload_n 3, 1) :: (25, .getfield 196, 3) :: (28, .if_icmp .ge 9, 3) :: (31, .iload_n 1, 1) :: (32, .bipush 16, 2) :: (34, .if_icmp .lt 6, 3) :: (37, .bipush (-4), 2) :: (39, .ireturn, 1) :: (40, .iload_n 2, 1) :: (41, .lookupswitch 41 #[(0, 27), (1, 34)], 27) :: (68, .aload_n 3, 1) :: (69, .getfield 208, 3) :: (72, .iload_n 1, 1) :: (73, .iaload, 1) :: (74, .ireturn, 1) :: (75, .aload_n 3, 1) :: (76, .getfield 211, 3) :: (79, .iload_n 1, 1) :: (80, .iaload, 1) :: (81, .ireturn, 1) :: (82, .aload_n 3, 1) :: (83, .getfield 214, 3) :: (86, .iload_n 1, 1) :: (87, .iaload, 1) :: (88, .ireturn, 1) :: []) (by decide +kernel)
set_option maxRecDepth 100000 in
theorem D_X7_lacking : decode cX7_lacking 0 = .ok (.iload_n 1, 1) ∧ decode cX7_lacking 1 = .ok (.iload_n 2, 1) ∧ decode cX7_lacking 2 = .ok (.invokestatic 62, 3) ∧ decode cX7_lacking 5 = .ok (.ifCond .eq 15, 3) ∧ decode cX7_lacking 8 = .ok (.aload_n 0, 1) ∧ decode cX7_lacking 9 = .ok (.getfield 12, 3) ∧ decode cX7_lacking 12 = .ok (.iload_n 1, 1) ∧ decode cX7_lacking 13 = .ok (.iload_n 2, 1) ∧ decode cX7_lacking 14 = .ok (.invokevirtual 217, 3) ∧ decode cX7_lacking 17 = .ok (.goto 4, 3) ∧ decode cX7_lacking 20 = .ok (.iconst (-1), 1) ∧ decode cX7_lacking 21 = .ok (.ireturn, 1) ∧ True := dq_of (l := (0, .iload_n 1, 1) :: (1, .iload_n 2, 1) :: (2, .invokestatic 62, 3) :: (5, .ifCond .eq 15, 3) :: (8, .aload_n 0, 1) :: (9, .getfield 12, 3) :: (12, .iload_n 1, 1) :: (13, .iload_n 2, 1) :: (14, .invokevirtual 217, 3) :: (17, .goto 4, 3) :: (20, .iconst (-1), 1) :: (21, .ireturn, 1) :: []) (by decide +kernel)
set_option maxRecDepth 100000 in
theorem D_X7_ticksTo : decode cX7_ticksTo 0 = .ok (.iload_n 1, 1) ∧ decode cX7_ticksTo 1 = .ok (.ifCond .ge 5, 3) ∧ decode cX7_ticksTo 4 = .ok (.iconst (-1), 1) ∧ decode cX7_ticksTo 5 = .ok (.ireturn, 1) ∧ decode cX7_ticksTo 6 = .ok (.aload_n 0, 1) ∧ decode cX7_ticksTo 7 = .ok (.getfield 12, 3) ∧ decode cX7_ticksTo 10 = .ok (.getfield 110, 3) ∧ decode cX7_ticksTo 13 = .ok (.iload_n 1, 1) ∧ decode cX7_ticksTo 14 = .ok (.invokevirtual 124, 3) ∧ decode cX7_ticksTo 17 = .ok (.ifnonnull 6, 3) ∧ decode cX7_ticksTo 20 = .ok (.bipush (-4), 2) ∧ decode cX7_ticksTo 22 = .ok (.ireturn, 1) ∧ decode cX7_ticksTo 23 = .ok (.aload_n 0, 1) ∧ decode cX7_ticksTo 24 = .ok (.getfield 16, 3) ∧ decode cX7_ticksTo 27 = .ok (.aload_n 0, 1) ∧ decode cX7_ticksTo 28 = .ok (.getfield 12, 3) ∧ decode cX7_ticksTo 31 = .ok (.invokevirtual 172, 3) ∧ decode cX7_ticksTo 34 = .ok (.aload_n 0, 1) ∧ decode cX7_ticksTo 35 = .ok (.getfield 16, 3) ∧ decode cX7_ticksTo 38 = .ok (.iload_n 1, 1) ∧ decode cX7_ticksTo 39 = .ok (.invokevirtual 220, 3) ∧ decode cX7_ticksTo 42 = .ok (.ireturn, 1) ∧ True := dq_of (l := (0, .iload_n 1, 1) :: (1, .ifCond .ge 5, 3) :: (4, .iconst (-1), 1) :: (5, .ireturn, 1) :: (6, .aload_n 0, 1) :: (7, .getfield 12, 3) :: (10, .getfield 110, 3) :: (13, .iload_n 1, 1) :: (14, .invokevirtual 124, 3) :: (17, .ifnonnull 6, 3) :: (20, .bipush (-4), 2) :: (22, .ireturn, 1) :: (23, .aload_n 0, 1) :: (24, .getfield 16, 3) :: (27, .aload_n 0, 1) :: (28, .getfield 12, 3) :: (31, .invokevirtual 172, 3) :: (34, .aload_n 0, 1) :: (35, .getfield 16, 3) :: (38, .iload_n 1, 1) :: (39, .invokevirtual 220, 3) :: (42, .ireturn, 1) :: []) (by decide +kernel)
set_option maxRecDepth 100000 in
theorem D_X7_undo : decode cX7_undo 0 = .ok (.aload_n 0, 1) ∧ decode cX7_undo 1 = .ok (.getfield 22, 3) ∧ decode cX7_undo 4 = .ok (.aload_n 0, 1) ∧ decode cX7_undo 5 = .ok (.getfield 12, 3) ∧ decode cX7_undo 8 = .ok (.invokevirtual 223, 3) ∧ decode cX7_undo 11 = .ok (.ifCond .eq 13, 3) ∧ decode cX7_undo 14 = .ok (.aload_n 0, 1) ∧ decode cX7_undo 15 = .ok (.getfield 22, 3) ∧ decode cX7_undo 18 = .ok (.getfield 199, 3) ∧ decode cX7_undo 21 = .ok (.goto 5, 3) ∧ decode cX7_undo 24 = .ok (.bipush (-2), 2) ∧ decode cX7_undo 26 = .ok (.ireturn, 1) ∧ True := dq_of (l := (0, .aload_n 0, 1) :: (1, .getfield 22, 3) :: (4, .aload_n 0, 1) :: (5, .getfield 12, 3) :: (8, .invokevirtual 223, 3) :: (11, .ifCond .eq 13, 3) :: (14, .aload_n 0, 1) :: (15, .getfield 22, 3) :: (18, .getfield 199, 3) :: (21, .goto 5, 3) :: (24, .bipush (-2), 2) :: (26, .ireturn, 1) :: []) (by decide +kernel)
set_option maxRecDepth 100000 in
theorem D_X7_type : decode cX7_type 0 = .ok (.iload_n 1, 1) ∧ decode cX7_type 1 = .ok (.bipush 32, 2) ∧ decode cX7_type 3 = .ok (.bipush 126, 2) ∧ decode cX7_type 5 = .ok (.invokestatic 44, 3) ∧ decode cX7_type 8 = .ok (.ifCond .ne 5, 3) ∧ decode cX7_type 11 = .ok (.iconst (-1), 1) ∧ decode cX7_type 12 = .ok (.ireturn, 1) ∧ decode cX7_type 13 = .ok (.aload_n 0, 1) ∧ decode cX7_type 14 = .ok (.getfield 29, 3) ∧ decode cX7_type 17 = .ok (.getfield 202, 3) ∧ decode cX7_type 20 = .ok (.bipush 100, 2) ∧ decode cX7_type 22 = .ok (.if_icmp .lt 6, 3) ∧ decode cX7_type 25 = .ok (.bipush (-3), 2) ∧ decode cX7_type 27 = .ok (.ireturn, 1) ∧ decode cX7_type 28 = .ok (.aload_n 0, 1) ∧ decode cX7_type 29 = .ok (.getfield 29, 3) ∧ decode cX7_type 32 = .ok (.iload_n 1, 1) ∧ decode cX7_type 33 = .ok (.i2c, 1) ∧ decode cX7_type 34 = .ok (.invokevirtual 227, 3) ∧ decode cX7_type 37 = .ok (.aload_n 0, 1) ∧ decode cX7_type 38 = .ok (.getfield 29, 3) ∧ decode cX7_type 41 = .ok (.getfield 202, 3) ∧ decode cX7_type 44 = .ok (.ireturn, 1) ∧ True := dq_of (l := (0, .iload_n 1, 1) :: (1, .bipush 32, 2) :: (3, .bipush 126, 2) :: (5, .invokestatic 44, 3) :: (8, .ifCond .ne 5, 3) :: (11, .iconst (-1), 1) :: (12, .ireturn, 1) :: (13, .aload_n 0, 1) :: (14, .getfield 29, 3) :: (17, .getfield 202, 3) :: (20, .bipush 100, 2) :: (22, .if_icmp .lt 6, 3) :: (25, .bipush (-3), 2) :: (27, .ireturn, 1) :: (28, .aload_n 0, 1) :: (29, .getfield 29, 3) :: (32, .iload_n 1, 1) :: (33, .i2c, 1) :: (34, .invokevirtual 227, 3) :: (37, .aload_n 0, 1) :: (38, .getfield 29, 3) :: (41, .getfield 202, 3) :: (44, .ireturn, 1) :: []) (by decide +kernel)
set_option maxRecDepth 100000 in
theorem D_X7_clearText : decode cX7_clearText 0 = .ok (.aload_n 0, 1) ∧ decode cX7_clearText 1 = .ok (.getfield 29, 3) ∧ decode cX7_clearText 4 = .ok (.getfield 202, 3) ∧ decode cX7_clearText 7 = .ok (.istore_n 1, 1) ∧ decode cX7_clearText 8 = .ok (.aload_n 0, 1) ∧ decode cX7_clearText 9 = .ok (.getfield 29, 3) ∧ decode cX7_clearText 12 = .ok (.iconst 0, 1) ∧ decode cX7_clearText 13 = .ok (.putfield 202, 3) ∧ decode cX7_clearText 16 = .ok (.iload_n 1, 1) ∧ decode cX7_clearText 17 = .ok (.ireturn, 1) ∧ True := dq_of (l := (0, .aload_n 0, 1) :: (1, .getfield 29, 3) :: (4, .getfield 202, 3) :: (7, .istore_n 1, 1) :: (8, .aload_n 0, 1) :: (9, .getfield 29, 3) :: (12, .iconst 0, 1) :: (13, .putfield 202, 3) :: (16, .iload_n 1, 1) :: (17, .ireturn, 1) :: []) (by decide +kernel)
set_option maxRecDepth 100000 in
theorem D_X7_fault : decode cX7_fault 0 = .ok (.iload_n 1, 1) ∧ decode cX7_fault 1 = .ok (.iconst 0, 1) ∧ decode cX7_fault 2 = .ok (.iconst 1, 1) ∧ decode cX7_fault 3 = .ok (.invokestatic 44, 3) ∧ decode cX7_fault 6 = .ok (.ifCond .ne 5, 3) ∧ decode cX7_fault 9 = .ok (.iconst (-1), 1) ∧ decode cX7_fault 10 = .ok (.ireturn, 1) ∧ decode cX7_fault 11 = .ok (.aload_n 0, 1) ∧ decode cX7_fault 12 = .ok (.getfield 29, 3) ∧ decode cX7_fault 15 = .ok (.aload_n 0, 1) ∧ decode cX7_fault 16 = .ok (.getfield 36, 3) ∧ decode cX7_fault 19 = .ok (.aload_n 0, 1) ∧ decode cX7_fault 20 = .ok (.getfield 12, 3) ∧ decode cX7_fault 23 = .ok (.invokevirtual 230, 3) ∧ decode cX7_fault 26 = .ok (.aload_n 0, 1) ∧ decode cX7_fault 27 = .ok (.getfield 29, 3) ∧ decode cX7_fault 30 = .ok (.getfield 234, 3) ∧ decode cX7_fault 33 = .ok (.ifCond .ne 6, 3) ∧ decode cX7_fault 36 = .ok (.bipush (-4), 2) ∧ decode cX7_fault 38 = .ok (.ireturn, 1) ∧ decode cX7_fault 39 = .ok (.iload_n 1, 1) ∧ decode cX7_fault 40 = .ok (.ifCond .ne 13, 3) ∧ decode cX7_fault 43 = .ok (.aload_n 0, 1) ∧ decode cX7_fault 44 = .ok (.getfield 29, 3) ∧ decode cX7_fault 47 = .ok (.getfield 237, 3) ∧ decode cX7_fault 50 = .ok (.goto 10, 3) ∧ decode cX7_fault 53 = .ok (.aload_n 0, 1) ∧ decode cX7_fault 54 = .ok (.getfield 29, 3) ∧ decode cX7_fault 57 = .ok (.getfield 234, 3) ∧ decode cX7_fault 60 = .ok (.ireturn, 1) ∧ True := dq_of (l := (0, .iload_n 1, 1) :: (1, .iconst 0, 1) :: (2, .iconst 1, 1) :: (3, .invokestatic 44, 3) :: (6, .ifCond .ne 5, 3) :: (9, .iconst (-1), 1) :: (10, .ireturn, 1) :: (11, .aload_n 0, 1) :: (12, .getfield 29, 3) :: (15, .aload_n 0, 1) :: (16, .getfield 36, 3) :: (19, .aload_n 0, 1) :: (20, .getfield 12, 3) :: (23, .invokevirtual 230, 3) :: (26, .aload_n 0, 1) :: (27, .getfield 29, 3) :: (30, .getfield 234, 3) :: (33, .ifCond .ne 6, 3) :: (36, .bipush (-4), 2) :: (38, .ireturn, 1) :: (39, .iload_n 1, 1) :: (40, .ifCond .ne 13, 3) :: (43, .aload_n 0, 1) :: (44, .getfield 29, 3) :: (47, .getfield 237, 3) :: (50, .goto 10, 3) :: (53, .aload_n 0, 1) :: (54, .getfield 29, 3) :: (57, .getfield 234, 3) :: (60, .ireturn, 1) :: []) (by decide +kernel)
set_option maxRecDepth 100000 in
theorem D_X7_enter : decode cX7_enter 0 = .ok (.aload_n 0, 1) ∧ decode cX7_enter 1 = .ok (.getfield 29, 3) ∧ decode cX7_enter 4 = .ok (.aload_n 0, 1) ∧ decode cX7_enter 5 = .ok (.getfield 36, 3) ∧ decode cX7_enter 8 = .ok (.aload_n 0, 1) ∧ decode cX7_enter 9 = .ok (.getfield 12, 3) ∧ decode cX7_enter 12 = .ok (.invokevirtual 230, 3) ∧ decode cX7_enter 15 = .ok (.aload_n 0, 1) ∧ decode cX7_enter 16 = .ok (.getfield 29, 3) ∧ decode cX7_enter 19 = .ok (.getfield 234, 3) ∧ decode cX7_enter 22 = .ok (.ifCond .eq 6, 3) ∧ decode cX7_enter 25 = .ok (.bipush (-2), 2) ∧ decode cX7_enter 27 = .ok (.ireturn, 1) ∧ decode cX7_enter 28 = .ok (.aload_n 0, 1) ∧ decode cX7_enter 29 = .ok (.getfield 22, 3) ∧ decode cX7_enter 32 = .ok (.aload_n 0, 1) ∧ decode cX7_enter 33 = .ok (.getfield 12, 3) ∧ decode cX7_enter 36 = .ok (.invokevirtual 58, 3) ∧ decode cX7_enter 39 = .ok (.aload_n 0, 1) ∧ decode cX7_enter 40 = .ok (.getfield 29, 3) ∧ decode cX7_enter 43 = .ok (.getfield 240, 3) ∧ decode cX7_enter 46 = .ok (.istore_n 1, 1) ∧ decode cX7_enter 47 = .ok (.aload_n 0, 1) ∧ decode cX7_enter 48 = .ok (.getfield 29, 3) ∧ decode cX7_enter 51 = .ok (.iconst 0, 1) ∧ decode cX7_enter 52 = .ok (.putfield 243, 3) ∧ decode cX7_enter 55 = .ok (.iconst 0, 1) ∧ decode cX7_enter 56 = .ok (.istore_n 2, 1) ∧ decode cX7_enter 57 = .ok (.iload_n 2, 1) ∧ decode cX7_enter 58 = .ok (.iload_n 1, 1) ∧ decode cX7_enter 59 = .ok (.if_icmp .ge 38, 3) ∧ decode cX7_enter 62 = .ok (.aload_n 0, 1) ∧ decode cX7_enter 63 = .ok (.getfield 29, 3) ∧ decode cX7_enter 66 = .ok (.aload_n 0, 1) ∧ decode cX7_enter 67 = .ok (.getfield 36, 3) ∧ decode cX7_enter 70 = .ok (.invokevirtual 246, 3) ∧ decode cX7_enter 73 = .ok (.ifCond .eq 18, 3) ∧ decode cX7_enter 76 = .ok (.aload_n 0, 1) ∧ decode cX7_enter 77 = .ok (.getfield 12, 3) ∧ decode cX7_enter 80 = .ok (.getfield 110, 3) ∧ decode cX7_enter 83 = .ok (.aload_n 0, 1) ∧ decode cX7_enter 84 = .ok (.getfield 36, 3) ∧ decode cX7_enter 87 = .ok (.invokevirtual 120, 3) ∧ decode cX7_enter 90 = .ok (.pop, 1) ∧ decode cX7_enter 91 = .ok (.iinc 2 1, 3) ∧ decode cX7_enter 94 = .ok (.goto (-37), 3) ∧ decode cX7_enter 97 = .ok (.iload_n 1, 1) ∧ decode cX7_enter 98 = .ok (.ireturn, 1) ∧ True := dq_of (l := (0, .aload_n 0, 1) :: (1, .getfield 29, 3) :: (4, .aload_n 0, 1) :: (5, .getfield 36, 3) :: (8, .aload_n 0, 1) :: (9, .getfield 12, 3) :: (12, .invokevirtual 230, 3) :: (15, .aload_n 0, 1) :: (16, .getfield 29, 3) :: (19, .getfield 234, 3) :: (22, .ifCond .eq 6, 3) :: (25, .bipush (-2), 2) :: (27, .ireturn, 1) :: (28, .aload_n 0, 1) :: (29, .getfield 22, 3) :: (32, .aload_n 0, 1) :: (33, .getfield 12, 3) :: (36, .invokevirtual 58, 3) :: (39, .aload_n 0, 1) :: (40, .getfield 29, 3) :: (43, .getfield 240, 3) :: (46, .istore_n 1, 1) :: (47, .aload_n 0, 1) :: (48, .getfield 29, 3) :: (51, .iconst 0, 1) :: (52, .putfield 243, 3) :: (55, .iconst 0, 1) :: (56, .istore_n 2, 1) :: (57, .iload_n 2, 1) :: (58, .iload_n 1, 1) :: (59, .if_icmp .ge 38, 3) :: (62, .aload_n 0, 1) :: (63, .getfield 29, 3) :: (66, .aload_n 0, 1) :: (67, .getfield 36, 3) :: (70, .invokevirtual 246, 3) :: (73, .ifCond .eq 18, 3) :: (76, .aload_n 0, 1) :: (77, .getfield 12, 3) :: (80, .getfield 110, 3) :: (83, .aload_n 0, 1) :: (84, .getfield 36, 3) :: (87, .invokevirtual 120, 3) :: (90, .pop, 1) :: (91, .iinc 2 1, 3) :: (94, .goto (-37), 3) :: (97, .iload_n 1, 1) :: (98, .ireturn, 1) :: []) (by decide +kernel)
set_option maxRecDepth 100000 in
theorem D_X7_settingAt : decode cX7_settingAt 0 = .ok (.iload_n 1, 1) ∧ decode cX7_settingAt 1 = .ok (.bipush 6, 2) ∧ decode cX7_settingAt 3 = .ok (.invokestatic 40, 3) ∧ decode cX7_settingAt 6 = .ok (.ifCond .eq 15, 3) ∧ decode cX7_settingAt 9 = .ok (.aload_n 0, 1) ∧ decode cX7_settingAt 10 = .ok (.getfield 12, 3) ∧ decode cX7_settingAt 13 = .ok (.getfield 92, 3) ∧ decode cX7_settingAt 16 = .ok (.iload_n 1, 1) ∧ decode cX7_settingAt 17 = .ok (.iaload, 1) ∧ decode cX7_settingAt 18 = .ok (.goto 4, 3) ∧ decode cX7_settingAt 21 = .ok (.iconst (-1), 1) ∧ decode cX7_settingAt 22 = .ok (.ireturn, 1) ∧ True := dq_of (l := (0, .iload_n 1, 1) :: (1, .bipush 6, 2) :: (3, .invokestatic 40, 3) :: (6, .ifCond .eq 15, 3) :: (9, .aload_n 0, 1) :: (10, .getfield 12, 3) :: (13, .getfield 92, 3) :: (16, .iload_n 1, 1) :: (17, .iaload, 1) :: (18, .goto 4, 3) :: (21, .iconst (-1), 1) :: (22, .ireturn, 1) :: []) (by decide +kernel)
set_option maxRecDepth 100000 in
theorem D_X7_isWithin : decode cX7_isWithin 0 = .ok (.iload_n 0, 1) ∧ decode cX7_isWithin 1 = .ok (.iload_n 1, 1) ∧ decode cX7_isWithin 2 = .ok (.if_icmp .lt 12, 3) ∧ decode cX7_isWithin 5 = .ok (.iload_n 0, 1) ∧ decode cX7_isWithin 6 = .ok (.iload_n 2, 1) ∧ decode cX7_isWithin 7 = .ok (.if_icmp .gt 7, 3) ∧ decode cX7_isWithin 10 = .ok (.iconst 1, 1) ∧ decode cX7_isWithin 11 = .ok (.goto 4, 3) ∧ decode cX7_isWithin 14 = .ok (.iconst 0, 1) ∧ decode cX7_isWithin 15 = .ok (.ireturn, 1) ∧ True := dq_of (l := (0, .iload_n 0, 1) :: (1, .iload_n 1, 1) :: (2, .if_icmp .lt 12, 3) :: (5, .iload_n 0, 1) :: (6, .iload_n 2, 1) :: (7, .if_icmp .gt 7, 3) :: (10, .iconst 1, 1) :: (11, .goto 4, 3) :: (14, .iconst 0, 1) :: (15, .ireturn, 1) :: []) (by decide +kernel)
set_option maxRecDepth 100000 in
theorem D_X7_isBelow : decode cX7_isBelow 0 = .ok (.iload_n 0, 1) ∧ decode cX7_isBelow 1 = .ok (.ifCond .lt 12, 3) ∧ decode cX7_isBelow 4 = .ok (.iload_n 0, 1) ∧ decode cX7_isBelow 5 = .ok (.iload_n 1, 1) ∧ decode cX7_isBelow 6 = .ok (.if_icmp .ge 7, 3) ∧ decode cX7_isBelow 9 = .ok (.iconst 1, 1) ∧ decode cX7_isBelow 10 = .ok (.goto 4, 3) ∧ decode cX7_isBelow 13 = .ok (.iconst 0, 1) ∧ decode cX7_isBelow 14 = .ok (.ireturn, 1) ∧ True := dq_of (l := (0, .iload_n 0, 1) :: (1, .ifCond .lt 12, 3) :: (4, .iload_n 0, 1) :: (5, .iload_n 1, 1) :: (6, .if_icmp .ge 7, 3) :: (9, .iconst 1, 1) :: (10, .goto 4, 3) :: (13, .iconst 0, 1) :: (14, .ireturn, 1) :: []) (by decide +kernel)
set_option maxRecDepth 100000 in
theorem D_X7_isPaper : decode cX7_isPaper 0 = .ok (.iload_n 0, 1) ∧ decode cX7_isPaper 1 = .ok (.iconst 4, 1) ∧ decode cX7_isPaper 2 = .ok (.invokestatic 40, 3) ∧ decode cX7_isPaper 5 = .ok (.ifCond .eq 15, 3) ∧ decode cX7_isPaper 8 = .ok (.iload_n 1, 1) ∧ decode cX7_isPaper 9 = .ok (.iconst 4, 1) ∧ decode cX7_isPaper 10 = .ok (.invokestatic 40, 3) ∧ decode cX7_isPaper 13 = .ok (.ifCond .eq 7, 3) ∧ decode cX7_isPaper 16 = .ok (.iconst 1, 1) ∧ decode cX7_isPaper 17 = .ok (.goto 4, 3) ∧ decode cX7_isPaper 20 = .ok (.iconst 0, 1) ∧ decode cX7_isPaper 21 = .ok (.ireturn, 1) ∧ True := dq_of (l := (0, .iload_n 0, 1) :: (1, .iconst 4, 1) :: (2, .invokestatic 40, 3) :: (5, .ifCond .eq 15, 3) :: (8, .iload_n 1, 1) :: (9, .iconst 4, 1) :: (10, .invokestatic 40, 3) :: (13, .ifCond .eq 7, 3) :: (16, .iconst 1, 1) :: (17, .goto 4, 3) :: (20, .iconst 0, 1) :: (21, .ireturn, 1) :: []) (by decide +kernel)
set_option maxRecDepth 100000 in
theorem D_X8_init : decode cX8_init 0 = .ok (.aload_n 0, 1) ∧ decode cX8_init 1 = .ok (.invokespecial 1, 3) ∧ decode cX8_init 4 = .ok (.aload_n 0, 1) ∧ decode cX8_init 5 = .ok (.sipush 185, 3) ∧ decode cX8_init 8 = .ok (.newarray .int, 2) ∧ decode cX8_init 10 = .ok (.putfield 7, 3) ∧ decode cX8_init 13 = .ok (.aload_n 0, 1) ∧ decode cX8_init 14 = .ok (.sipush 740, 3) ∧ decode cX8_init 17 = .ok (.newarray .int, 2) ∧ decode cX8_init 19 = .ok (.putfield 13, 3) ∧ decode cX8_init 22 = .ok (.aload_n 0, 1) ∧ decode cX8_init 23 = .ok (.sipush 185, 3) ∧ decode cX8_init 26 = .ok (.newarray .int, 2) ∧ decode cX8_init 28 = .ok (.putfield 16, 3) ∧ decode cX8_init 31 = .ok (.aload_n 0, 1) ∧ decode cX8_init 32 = .ok (.bipush (-4), 2) ∧ decode cX8_init 34 = .ok (.putfield 19, 3) ∧ decode cX8_init 37 = .ok (.aload_n 0, 1) ∧ decode cX8_init 38 = .ok (.bipush 100, 2) ∧ decode cX8_init 40 = .ok (.newarray .int, 2) ∧ decode cX8_init 42 = .ok (.putfield 23, 3) ∧ decode cX8_init 45 = .ok (.aload_n 0, 1) ∧ decode cX8_init 46 = .ok (.iconst 5, 1) ∧ decode cX8_init 47 = .ok (.newarray .int, 2) ∧ decode cX8_init 49 = .ok (.putfield 26, 3) ∧ decode cX8_init 52 = .ok (.aload_n 0, 1) ∧ decode cX8_init 53 = .ok (.getfield 7, 3) ∧ decode cX8_init 56 = .ok (.iconst 3, 1) ∧ decode cX8_init 57 = .ok (.bipush 100, 2) ∧ decode cX8_init 59 = .ok (.iastore, 1) ∧ decode cX8_init 60 = .ok (.aload_n 0, 1) ∧ decode cX8_init 61 = .ok (.getfield 7, 3) ∧ decode cX8_init 64 = .ok (.bipush 6, 2) ∧ decode cX8_init 66 = .ok (.bipush (-4), 2) ∧ decode cX8_init 68 = .ok (.iastore, 1) ∧ decode cX8_init 69 = .ok (.aload_n 0, 1) ∧ decode cX8_init 70 = .ok (.getfield 7, 3) ∧ decode cX8_init 73 = .ok (.bipush 7, 2) ∧ decode cX8_init 75 = .ok (.bipush (-4), 2) ∧ decode cX8_init 77 = .ok (.iastore, 1) ∧ decode cX8_init 78 = .ok (.aload_n 0, 1) ∧ decode cX8_init 79 = .ok (.getfield 7, 3) ∧ decode cX8_init 82 = .ok (.bipush 10, 2) ∧ decode cX8_init 84 = .ok (.iconst 2, 1) ∧ decode cX8_init 85 = .ok (.iastore, 1) ∧ decode cX8_init 86 = .ok (.aload_n 0, 1) ∧ decode cX8_init 87 = .ok (.getfield 7, 3) ∧ decode cX8_init 90 = .ok (.bipush 11, 2) ∧ decode cX8_init 92 = .ok (.iconst 1, 1) ∧ decode cX8_init 93 = .ok (.iastore, 1) ∧ decode cX8_init 94 = .ok (.aload_n 0, 1) ∧ decode cX8_init 95 = .ok (.getfield 7, 3) ∧ decode cX8_init 98 = .ok (.bipush 12, 2) ∧ decode cX8_init 100 = .ok (.iconst 3, 1) ∧ decode cX8_init 101 = .ok (.iastore, 1) ∧ decode cX8_init 102 = .ok (.aload_n 0, 1) ∧ decode cX8_init 103 = .ok (.getfield 7, 3) ∧ decode cX8_init 106 = .ok (.bipush 13, 2) ∧ decode cX8_init 108 = .ok (.bipush 30, 2) ∧ decode cX8_init 110 = .ok (.iastore, 1) ∧ decode cX8_init 111 = .ok (.aload_n 0, 1) ∧ decode cX8_init 112 = .ok (.getfield 7, 3) ∧ decode cX8_init 115 = .ok (.bipush 15, 2) ∧ decode cX8_init 117 = .ok (.sipush 250, 3) ∧ decode cX8_init 120 = .ok (.iastore, 1) ∧ decode cX8_init 121 = .ok (.iconst 0, 1) ∧ decode cX8_init 122 = .ok (.istore_n 1, 1) ∧ decode cX8_init 123 = .ok (.iload_n 1, 1) ∧ decode cX8_init 124 = .ok (.iconst 4, 1) ∧ decode cX8_init 125 = .ok (.if_icmp .ge 21, 3) ∧ decode cX8_init 128 = .ok (.aload_n 0, 1) ∧ decode cX8_init 129 = .ok (.getfield 7, 3) ∧ decode cX8_init 132 = .ok (.bipush 25, 2) ∧ decode cX8_init 134 = .ok (.iconst 3, 1) ∧ decode cX8_init 135 = .ok (.iload_n 1, 1) ∧ decode cX8_init 136 = .ok (.imul, 1) ∧ decode cX8_init 137 = .ok (.iadd, 1) ∧ decode cX8_init 138 = .ok (.iconst 1, 1) ∧ decode cX8_init 139 = .ok (.iastore, 1) ∧ decode cX8_init 140 = .ok (.iinc 1 1, 3) ∧ decode cX8_init 143 = .ok (.goto (-20), 3) ∧ decode cX8_init 146 = .ok (.return_, 1) ∧ True := dq_of (l := (0, .aload_n 0, 1) :: (1, .invokespecial 1, 3) :: (4, .aload_n 0, 1) :: (5, .sipush 185, 3) :: (8, .newarray .int, 2) :: (10, .putfield 7, 3) :: (13, .aload_n 0, 1) :: (14, .sipush 740, 3) :: (17, .newarray .int, 2) :: (19, .putfield 13, 3) :: (22, .aload_n 0, 1) :: (23, .sipush 185, 3) :: (26, .newarray .int, 2) :: (28, .putfield 16, 3) :: (31, .aload_n 0, 1) :: (32, .bipush (-4), 2) :: (34, .putfield 19, 3) :: (37, .aload_n 0, 1) :: (38, .bipush 100, 2) :: (40, .newarray .int, 2) :: (42, .putfield 23, 3) :: (45, .aload_n 0, 1) :: (46, .iconst 5, 1) :: (47, .newarray .int, 2) :: (49, .putfield 26, 3) :: (52, .aload_n 0, 1) :: (53, .getfield 7, 3) :: (56, .iconst 3, 1) :: (57, .bipush 100, 2) :: (59, .iastore, 1) :: (60, .aload_n 0, 1) :: (61, .getfield 7, 3) :: (64, .bipush 6, 2) :: (66, .bipush (-4), 2) :: (68, .iastore, 1) :: (69, .aload_n 0, 1) :: (70, .getfield 7, 3) :: (73, .bipush 7, 2) :: (75, .bipush (-4), 2) :: (77, .iastore, 1) :: (78, .aload_n 0, 1) :: (79, .getfield 7, 3) :: (82, .bipush 10, 2) :: (84, .iconst 2, 1) :: (85, .iastore, 1) :: (86, .aload_n 0, 1) :: (87, .getfield 7, 3) :: (90, .bipush 11, 2) :: (92, .iconst 1, 1) :: (93, .iastore, 1) :: (94, .aload_n 0, 1) :: (95, .getfield 7, 3) :: (98, .bipush 12, 2) :: (100, .iconst 3, 1) :: (101, .iastore, 1) :: (102, .aload_n 0, 1) :: (103, .getfield 7, 3) :: (106, .bipush 13, 2) :: (108, .bipush 30, 2) :: (110, .iastore, 1) :: (111, .aload_n 0, 1) :: (112, .getfield 7, 3) :: (115, .bipush 15, 2) :: (117, .sipush 250, 3) :: (120, .iastore, 1) :: (121, .iconst 0, 1) :: (122, .istore_n 1, 1) :: (123, .iload_n 1, 1) :: (124, .iconst 4, 1) :: (125, .if_icmp .ge 21, 3) :: (128, .aload_n 0, 1) :: (129, .getfield 7, 3) :: (132, .bipush 25, 2) :: (134, .iconst 3, 1) :: (135, .iload_n 1, 1) :: (136, .imul, 1) :: (137, .iadd, 1) :: (138, .iconst 1, 1) :: (139, .iastore, 1) :: (140, .iinc 1 1, 3) :: (143, .goto (-20), 3) :: (146, .return_, 1) :: []) (by decide +kernel)
set_option maxRecDepth 100000 in
theorem D_X8_in : decode cX8_in 0 = .ok (.iload_n 0, 1) ∧ decode cX8_in 1 = .ok (.iload_n 1, 1) ∧ decode cX8_in 2 = .ok (.if_icmp .lt 12, 3) ∧ decode cX8_in 5 = .ok (.iload_n 0, 1) ∧ decode cX8_in 6 = .ok (.iload_n 2, 1) ∧ decode cX8_in 7 = .ok (.if_icmp .gt 7, 3) ∧ decode cX8_in 10 = .ok (.iconst 1, 1) ∧ decode cX8_in 11 = .ok (.goto 4, 3) ∧ decode cX8_in 14 = .ok (.iconst 0, 1) ∧ decode cX8_in 15 = .ok (.ireturn, 1) ∧ True := dq_of (l := (0, .iload_n 0, 1) :: (1, .iload_n 1, 1) :: (2, .if_icmp .lt 12, 3) :: (5, .iload_n 0, 1) :: (6, .iload_n 2, 1) :: (7, .if_icmp .gt 7, 3) :: (10, .iconst 1, 1) :: (11, .goto 4, 3) :: (14, .iconst 0, 1) :: (15, .ireturn, 1) :: []) (by decide +kernel)
set_option maxRecDepth 100000 in
theorem D_X8_records : decode cX8_records 0 = .ok (.aload_n 0, 1) ∧ decode cX8_records 1 = .ok (.getfield 29, 3) ∧ decode cX8_records 4 = .ok (.iconst 4, 1) ∧ decode cX8_records 5 = .ok (.if_icmp .ne 44, 3) ∧ decode cX8_records 8 = .ok (.iconst 0, 1) ∧ decode cX8_records 9 = .ok (.istore_n 1, 1) ∧ decode cX8_records 10 = .ok (.iload_n 1, 1) ∧ decode cX8_records 11 = .ok (.sipush 555, 3) ∧ decode cX8_records 14 = .ok (.if_icmp .ge 25, 3) ∧ decode cX8_records 17 = .ok (.aload_n 0, 1) ∧ decode cX8_records 18 = .ok (.getfield 13, 3) ∧ decode cX8_records 21 = .ok (.iload_n 1, 1) ∧ decode cX8_records 22 = .ok (.aload_n 0, 1) ∧ decode cX8_records 23 = .ok (.getfield 13, 3) ∧ decode cX8_records 26 = .ok (.iload_n 1, 1) ∧ decode cX8_records 27 = .ok (.sipush 185, 3) ∧ decode cX8_records 30 = .ok (.iadd, 1) ∧ decode cX8_records 31 = .ok (.iaload, 1) ∧ decode cX8_records 32 = .ok (.iastore, 1) ∧ decode cX8_records 33 = .ok (.iinc 1 1, 3) ∧ decode cX8_records 36 = .ok (.goto (-26), 3) ∧ decode cX8_records 39 = .ok (.aload_n 0, 1) ∧ decode cX8_records 40 = .ok (.dup, 1) ∧ decode cX8_records 41 = .ok (.getfield 29, 3) ∧ decode cX8_records 44 = .ok (.iconst 1, 1) ∧ decode cX8_records 45 = .ok (.isub, 1) ∧ decode cX8_records 46 = .ok (.putfield 29, 3) ∧ decode cX8_records 49 = .ok (.iconst 0, 1) ∧ decode cX8_records 50 = .ok (.istore_n 1, 1) ∧ decode cX8_records 51 = .ok (.iload_n 1, 1) ∧ decode cX8_records 52 = .ok (.sipush 185, 3) ∧ decode cX8_records 55 = .ok (.if_icmp .ge 30, 3) ∧ decode cX8_records 58 = .ok (.aload_n 0, 1) ∧ decode cX8_records 59 = .ok (.getfield 13, 3) ∧ decode cX8_records 62 = .ok (.sipush 185, 3) ∧ decode cX8_records 65 = .ok (.aload_n 0, 1) ∧ decode cX8_records 66 = .ok (.getfield 29, 3) ∧ decode cX8_records 69 = .ok (.imul, 1) ∧ decode cX8_records 70 = .ok (.iload_n 1, 1) ∧ decode cX8_records 71 = .ok (.iadd, 1) ∧ decode cX8_records 72 = .ok (.aload_n 0, 1) ∧ decode cX8_records 73 = .ok (.getfield 7, 3) ∧ decode cX8_records 76 = .ok (.iload_n 1, 1) ∧ decode cX8_records 77 = .ok (.iaload, 1) ∧ decode cX8_records 78 = .ok (.iastore, 1) ∧ decode cX8_records 79 = .ok (.iinc 1 1, 3) ∧ decode cX8_records 82 = .ok (.goto (-31), 3) ∧ decode cX8_records 85 = .ok (.aload_n 0, 1) ∧ decode cX8_records 86 = .ok (.dup, 1) ∧ decode cX8_records 87 = .ok (.getfield 29, 3) ∧ decode cX8_records 90 = .ok (.iconst 1, 1) ∧ decode cX8_records 91 = .ok (.iadd, 1) ∧ decode cX8_records 92 = .ok (.putfield 29, 3) ∧ decode cX8_records 95 = .ok (.return_, 1) ∧ True := dq_of (l := (0, .aload_n 0, 1) :: (1, .getfield 29, 3) :: (4, .iconst 4, 1) :: (5, .if_icmp .ne 44, 3) :: (8, .iconst 0, 1) :: (9, .istore_n 1, 1) :: (10, .iload_n 1, 1) :: (11, .sipush 555, 3) :: (14, .if_icmp .ge 25, 3) :: (17, .aload_n 0, 1) :: (18, .getfield 13, 3) :: (21, .iload_n 1, 1) :: (22, .aload_n 0, 1) :: (23, .getfield 13, 3) :: (26, .iload_n 1, 1) :: (27, .sipush 185, 3) :: (30, .iadd, 1) :: (31, .iaload, 1) :: (32, .iastore, 1) :: (33, .iinc 1 1, 3) :: (36, .goto (-26), 3) :: (39, .aload_n 0, 1) :: (40, .dup, 1) :: (41, .getfield 29, 3) :: (44, .iconst 1, 1) :: (45, .isub, 1) :: (46, .putfield 29, 3) :: (49, .iconst 0, 1) :: (50, .istore_n 1, 1) :: (51, .iload_n 1, 1) :: (52, .sipush 185, 3) :: (55, .if_icmp .ge 30, 3) :: (58, .aload_n 0, 1) :: (59, .getfield 13, 3) :: (62, .sipush 185, 3) :: (65, .aload_n 0, 1) :: (66, .getfield 29, 3) :: (69, .imul, 1) :: (70, .iload_n 1, 1) :: (71, .iadd, 1) :: (72, .aload_n 0, 1) :: (73, .getfield 7, 3) :: (76, .iload_n 1, 1) :: (77, .iaload, 1) :: (78, .iastore, 1) :: (79, .iinc 1 1, 3) :: (82, .goto (-31), 3) :: (85, .aload_n 0, 1) :: (86, .dup, 1) :: (87, .getfield 29, 3) :: (90, .iconst 1, 1) :: (91, .iadd, 1) :: (92, .putfield 29, 3) :: (95, .return_, 1) :: []) (by decide +kernel)
set_option maxRecDepth 100000 in
theorem D_X8_undo : decode cX8_undo 0 = .ok (.aload_n 0, 1) ∧ decode cX8_undo 1 = .ok (.getfield 29, 3) ∧ decode cX8_undo 4 = .ok (.ifCond .ne 6, 3) ∧ decode cX8_undo 7 = .ok (.bipush (-2), 2) ∧ decode cX8_undo 9 = .ok (.ireturn, 1) ∧ decode cX8_undo 10 = .ok (.aload_n 0, 1) ∧ decode cX8_undo 11 = .ok (.dup, 1) ∧ decode cX8_undo 12 = .ok (.getfield 29, 3) ∧ decode cX8_undo 15 = .ok (.iconst 1, 1) ∧ decode cX8_undo 16 = .ok (.isub, 1) ∧ decode cX8_undo 17 = .ok (.putfield 29, 3) ∧ decode cX8_undo 20 = .ok (.iconst 0, 1) ∧ decode cX8_undo 21 = .ok (.istore_n 1, 1) ∧ decode cX8_undo 22 = .ok (.iload_n 1, 1) ∧ decode cX8_undo 23 = .ok (.sipush 185, 3) ∧ decode cX8_undo 26 = .ok (.if_icmp .ge 30, 3) ∧ decode cX8_undo 29 = .ok (.aload_n 0, 1) ∧ decode cX8_undo 30 = .ok (.getfield 7, 3) ∧ decode cX8_undo 33 = .ok (.iload_n 1, 1) ∧ decode cX8_undo 34 = .ok (.aload_n 0, 1) ∧ decode cX8_undo 35 = .ok (.getfield 13, 3) ∧ decode cX8_undo 38 = .ok (.sipush 185, 3) ∧ decode cX8_undo 41 = .ok (.aload_n 0, 1) ∧ decode cX8_undo 42 = .ok (.getfield 29, 3) ∧ decode cX8_undo 45 = .ok (.imul, 1) ∧ decode cX8_undo 46 = .ok (.iload_n 1, 1) ∧ decode cX8_undo 47 = .ok (.iadd, 1) ∧ decode cX8_undo 48 = .ok (.iaload, 1) ∧ decode cX8_undo 49 = .ok (.iastore, 1) ∧ decode cX8_undo 50 = .ok (.iinc 1 1, 3) ∧ decode cX8_undo 53 = .ok (.goto (-31), 3) ∧ decode cX8_undo 56 = .ok (.aload_n 0, 1) ∧ decode cX8_undo 57 = .ok (.getfield 29, 3) ∧ decode cX8_undo 60 = .ok (.ireturn, 1) ∧ True := dq_of (l := (0, .aload_n 0, 1) :: (1, .getfield 29, 3) :: (4, .ifCond .ne 6, 3) :: (7, .bipush (-2), 2) :: (9, .ireturn, 1) :: (10, .aload_n 0, 1) :: (11, .dup, 1) :: (12, .getfield 29, 3) :: (15, .iconst 1, 1) :: (16, .isub, 1) :: (17, .putfield 29, 3) :: (20, .iconst 0, 1) :: (21, .istore_n 1, 1) :: (22, .iload_n 1, 1) :: (23, .sipush 185, 3) :: (26, .if_icmp .ge 30, 3) :: (29, .aload_n 0, 1) :: (30, .getfield 7, 3) :: (33, .iload_n 1, 1) :: (34, .aload_n 0, 1) :: (35, .getfield 13, 3) :: (38, .sipush 185, 3) :: (41, .aload_n 0, 1) :: (42, .getfield 29, 3) :: (45, .imul, 1) :: (46, .iload_n 1, 1) :: (47, .iadd, 1) :: (48, .iaload, 1) :: (49, .iastore, 1) :: (50, .iinc 1 1, 3) :: (53, .goto (-31), 3) :: (56, .aload_n 0, 1) :: (57, .getfield 29, 3) :: (60, .ireturn, 1) :: []) (by decide +kernel)
set_option maxRecDepth 100000 in
theorem D_X8_isPaper : decode cX8_isPaper 0 = .ok (.iload_n 0, 1) ∧ decode cX8_isPaper 1 = .ok (.iconst 0, 1) ∧ decode cX8_isPaper 2 = .ok (.iconst 3, 1) ∧ decode cX8_isPaper 3 = .ok (.invokestatic 32, 3) ∧ decode cX8_isPaper 6 = .ok (.ifCond .eq 16, 3) ∧ decode cX8_isPaper 9 = .ok (.iload_n 1, 1) ∧ decode cX8_isPaper 10 = .ok (.iconst 0, 1) ∧ decode cX8_isPaper 11 = .ok (.iconst 3, 1) ∧ decode cX8_isPaper 12 = .ok (.invokestatic 32, 3) ∧ decode cX8_isPaper 15 = .ok (.ifCond .eq 7, 3) ∧ decode cX8_isPaper 18 = .ok (.iconst 1, 1) ∧ decode cX8_isPaper 19 = .ok (.goto 4, 3) ∧ decode cX8_isPaper 22 = .ok (.iconst 0, 1) ∧ decode cX8_isPaper 23 = .ok (.ireturn, 1) ∧ True := dq_of (l := (0, .iload_n 0, 1) :: (1, .iconst 0, 1) :: (2, .iconst 3, 1) :: (3, .invokestatic 32, 3) :: (6, .ifCond .eq 16, 3) :: (9, .iload_n 1, 1) :: (10, .iconst 0, 1) :: (11, .iconst 3, 1) :: (12, .invokestatic 32, 3) :: (15, .ifCond .eq 7, 3) :: (18, .iconst 1, 1) :: (19, .goto 4, 3) :: (22, .iconst 0, 1) :: (23, .ireturn, 1) :: []) (by decide +kernel)
set_option maxRecDepth 100000 in
theorem D_X8_isTray : decode cX8_isTray 0 = .ok (.iload_n 0, 1) ∧ decode cX8_isTray 1 = .ok (.iconst 0, 1) ∧ decode cX8_isTray 2 = .ok (.iconst 3, 1) ∧ decode cX8_isTray 3 = .ok (.invokestatic 32, 3) ∧ decode cX8_isTray 6 = .ok (.ireturn, 1) ∧ True := dq_of (l := (0, .iload_n 0, 1) :: (1, .iconst 0, 1) :: (2, .iconst 3, 1) :: (3, .invokestatic 32, 3) :: (6, .ireturn, 1) :: []) (by decide +kernel)
set_option maxRecDepth 100000 in
theorem D_X8_fill : decode cX8_fill 0 = .ok (.iload_n 1, 1) ∧ decode cX8_fill 1 = .ok (.invokestatic 36, 3) ∧ decode cX8_fill 4 = .ok (.ifCond .eq 14, 3) ∧ decode cX8_fill 7 = .ok (.iload_n 2, 1) ∧ decode cX8_fill 8 = .ok (.iconst 1, 1) ∧ decode cX8_fill 9 = .ok (.sipush 500, 3) ∧ decode cX8_fill 12 = .ok (.invokestatic 32, 3) ∧ decode cX8_fill 15 = .ok (.ifCond .ne 5, 3) ∧ decode cX8_fill 18 = .ok (.iconst (-1), 1) ∧ decode cX8_fill 19 = .ok (.ireturn, 1) ∧ decode cX8_fill 20 = .ok (.bipush 25, 2) ∧ decode cX8_fill 22 = .ok (.iconst 3, 1) ∧ decode cX8_fill 23 = .ok (.iload_n 1, 1) ∧ decode cX8_fill 24 = .ok (.imul, 1) ∧ decode cX8_fill 25 = .ok (.iadd, 1) ∧ decode cX8_fill 26 = .ok (.iconst 2, 1) ∧ decode cX8_fill 27 = .ok (.iadd, 1) ∧ decode cX8_fill 28 = .ok (.istore_n 3, 1) ∧ decode cX8_fill 29 = .ok (.aload_n 0, 1) ∧ decode cX8_fill 30 = .ok (.getfield 7, 3) ∧ decode cX8_fill 33 = .ok (.iload_n 3, 1) ∧ decode cX8_fill 34 = .ok (.iaload, 1) ∧ decode cX8_fill 35 = .ok (.iload_n 2, 1) ∧ decode cX8_fill 36 = .ok (.iadd, 1) ∧ decode cX8_fill 37 = .ok (.sipush 500, 3) ∧ decode cX8_fill 40 = .ok (.if_icmp .le 6, 3) ∧ decode cX8_fill 43 = .ok (.bipush (-3), 2) ∧ decode cX8_fill 45 = .ok (.ireturn, 1) ∧ decode cX8_fill 46 = .ok (.aload_n 0, 1) ∧ decode cX8_fill 47 = .ok (.invokevirtual 40, 3) ∧ decode cX8_fill 50 = .ok (.aload_n 0, 1) ∧ decode cX8_fill 51 = .ok (.getfield 7, 3) ∧ decode cX8_fill 54 = .ok (.iload_n 3, 1) ∧ decode cX8_fill 55 = .ok (.dup2, 1) ∧ decode cX8_fill 56 = .ok (.iaload, 1) ∧ decode cX8_fill 57 = .ok (.iload_n 2, 1) ∧ decode cX8_fill 58 = .ok (.iadd, 1) ∧ decode cX8_fill 59 = .ok (.iastore, 1) ∧ decode cX8_fill 60 = .ok (.aload_n 0, 1) ∧ decode cX8_fill 61 = .ok (.getfield 7, 3) ∧ decode cX8_fill 64 = .ok (.iload_n 3, 1) ∧ decode cX8_fill 65 = .ok (.iaload, 1) ∧ decode cX8_fill 66 = .ok (.ireturn, 1) ∧ True := dq_of (l := (0, .iload_n 1, 1) :: (1, .invokestatic 36, 3) :: (4, .ifCond .eq 14, 3) :: (7, .iload_n 2, 1) :: (8, .iconst 1, 1) :: (9, .sipush 500, 3) :: (12, .invokestatic 32, 3) :: (15, .ifCond .ne 5, 3) :: (18, .iconst (-1), 1) :: (19, .ireturn, 1) :: (20, .bipush 25, 2) :: (22, .iconst 3, 1) :: (23, .iload_n 1, 1) :: (24, .imul, 1) :: (25, .iadd, 1) :: (26, .iconst 2, 1) :: (27, .iadd, 1) :: (28, .istore_n 3, 1) :: (29, .aload_n 0, 1) :: (30, .getfield 7, 3) :: (33, .iload_n 3, 1) :: (34, .iaload, 1) :: (35, .iload_n 2, 1) :: (36, .iadd, 1) :: (37, .sipush 500, 3) :: (40, .if_icmp .le 6, 3) :: (43, .bipush (-3), 2) :: (45, .ireturn, 1) :: (46, .aload_n 0, 1) :: (47, .invokevirtual 40, 3) :: (50, .aload_n 0, 1) :: (51, .getfield 7, 3) :: (54, .iload_n 3, 1) :: (55, .dup2, 1) :: (56, .iaload, 1) :: (57, .iload_n 2, 1) :: (58, .iadd, 1) :: (59, .iastore, 1) :: (60, .aload_n 0, 1) :: (61, .getfield 7, 3) :: (64, .iload_n 3, 1) :: (65, .iaload, 1) :: (66, .ireturn, 1) :: []) (by decide +kernel)
set_option maxRecDepth 100000 in
theorem D_X8_load : decode cX8_load 0 = .ok (.iload_n 1, 1) ∧ decode cX8_load 1 = .ok (.invokestatic 36, 3) ∧ decode cX8_load 4 = .ok (.ifCond .eq 11, 3) ∧ decode cX8_load 7 = .ok (.iload_n 2, 1) ∧ decode cX8_load 8 = .ok (.iload_n 3, 1) ∧ decode cX8_load 9 = .ok (.invokestatic 43, 3) ∧ decode cX8_load 12 = .ok (.ifCond .ne 5, 3) ∧ decode cX8_load 15 = .ok (.iconst (-1), 1) ∧ decode cX8_load 16 = .ok (.ireturn, 1) ∧ decode cX8_load 17 = .ok (.aload_n 0, 1) ∧ decode cX8_load 18 = .ok (.invokevirtual 40, 3) ∧ decode cX8_load 21 = .ok (.bipush 25, 2) ∧ decode cX8_load 23 = .ok (.iconst 3, 1) ∧ decode cX8_load 24 = .ok (.iload_n 1, 1) ∧ decode cX8_load 25 = .ok (.imul, 1) ∧ decode cX8_load 26 = .ok (.iadd, 1) ∧ decode cX8_load 27 = .ok (.istore 4, 2) ∧ decode cX8_load 29 = .ok (.aload_n 0, 1) ∧ decode cX8_load 30 = .ok (.getfield 7, 3) ∧ decode cX8_load 33 = .ok (.iload 4, 2) ∧ decode cX8_load 35 = .ok (.iconst 2, 1) ∧ decode cX8_load 36 = .ok (.iadd, 1) ∧ decode cX8_load 37 = .ok (.iaload, 1) ∧ decode cX8_load 38 = .ok (.istore 5, 2) ∧ decode cX8_load 40 = .ok (.aload_n 0, 1) ∧ decode cX8_load 41 = .ok (.getfield 7, 3) ∧ decode cX8_load 44 = .ok (.iload 4, 2) ∧ decode cX8_load 46 = .ok (.iload_n 2, 1) ∧ decode cX8_load 47 = .ok (.iastore, 1) ∧ decode cX8_load 48 = .ok (.aload_n 0, 1) ∧ decode cX8_load 49 = .ok (.getfield 7, 3) ∧ decode cX8_load 52 = .ok (.iload 4, 2) ∧ decode cX8_load 54 = .ok (.iconst 1, 1) ∧ decode cX8_load 55 = .ok (.iadd, 1) ∧ decode cX8_load 56 = .ok (.iload_n 3, 1) ∧ decode cX8_load 57 = .ok (.iastore, 1) ∧ decode cX8_load 58 = .ok (.aload_n 0, 1) ∧ decode cX8_load 59 = .ok (.getfield 7, 3) ∧ decode cX8_load 62 = .ok (.iload 4, 2) ∧ decode cX8_load 64 = .ok (.iconst 2, 1) ∧ decode cX8_load 65 = .ok (.iadd, 1) ∧ decode cX8_load 66 = .ok (.iconst 0, 1) ∧ decode cX8_load 67 = .ok (.iastore, 1) ∧ decode cX8_load 68 = .ok (.iload 5, 2) ∧ decode cX8_load 70 = .ok (.ireturn, 1) ∧ True := dq_of (l := (0, .iload_n 1, 1) :: (1, .invokestatic 36, 3) :: (4, .ifCond .eq 11, 3) :: (7, .iload_n 2, 1) :: (8, .iload_n 3, 1) :: (9, .invokestatic 43, 3) :: (12, .ifCond .ne 5, 3) :: (15, .iconst (-1), 1) :: (16, .ireturn, 1) :: (17, .aload_n 0, 1) :: (18, .invokevirtual 40, 3) :: (21, .bipush 25, 2) :: (23, .iconst 3, 1) :: (24, .iload_n 1, 1) :: (25, .imul, 1) :: (26, .iadd, 1) :: (27, .istore 4, 2) :: (29, .aload_n 0, 1) :: (30, .getfield 7, 3) :: (33, .iload 4, 2) :: (35, .iconst 2, 1) :: (36, .iadd, 1) :: (37, .iaload, 1) :: (38, .istore 5, 2) :: (40, .aload_n 0, 1) :: (41, .getfield 7, 3) :: (44, .iload 4, 2) :: (46, .iload_n 2, 1) :: (47, .iastore, 1) :: (48, .aload_n 0, 1) :: (49, .getfield 7, 3) :: (52, .iload 4, 2) :: (54, .iconst 1, 1) :: (55, .iadd, 1) :: (56, .iload_n 3, 1) :: (57, .iastore, 1) :: (58, .aload_n 0, 1) :: (59, .getfield 7, 3) :: (62, .iload 4, 2) :: (64, .iconst 2, 1) :: (65, .iadd, 1) :: (66, .iconst 0, 1) :: (67, .iastore, 1) :: (68, .iload 5, 2) :: (70, .ireturn, 1) :: []) (by decide +kernel)
set_option maxRecDepth 100000 in
theorem D_X8_isOf : decode cX8_isOf 0 = .ok (.aload_n 0, 1) ∧ decode cX8_isOf 1 = .ok (.getfield 7, 3) ∧ decode cX8_isOf 4 = .ok (.bipush 25, 2) ∧ decode cX8_isOf 6 = .ok (.iconst 3, 1) ∧ decode cX8_isOf 7 = .ok (.iload_n 1, 1) ∧ decode cX8_isOf 8 = .ok (.imul, 1) ∧ decode cX8_isOf 9 = .ok (.iadd, 1) ∧ decode cX8_isOf 10 = .ok (.iaload, 1) ∧ decode cX8_isOf 11 = .ok (.iload_n 2, 1) ∧ decode cX8_isOf 12 = .ok (.if_icmp .ne 24, 3) ∧ decode cX8_isOf 15 = .ok (.aload_n 0, 1) ∧ decode cX8_isOf 16 = .ok (.getfield 7, 3) ∧ decode cX8_isOf 19 = .ok (.bipush 25, 2) ∧ decode cX8_isOf 21 = .ok (.iconst 3, 1) ∧ decode cX8_isOf 22 = .ok (.iload_n 1, 1) ∧ decode cX8_isOf 23 = .ok (.imul, 1) ∧ decode cX8_isOf 24 = .ok (.iadd, 1) ∧ decode cX8_isOf 25 = .ok (.iconst 1, 1) ∧ decode cX8_isOf 26 = .ok (.iadd, 1) ∧ decode cX8_isOf 27 = .ok (.iaload, 1) ∧ decode cX8_isOf 28 = .ok (.iload_n 3, 1) ∧ decode cX8_isOf 29 = .ok (.if_icmp .ne 7, 3) ∧ decode cX8_isOf 32 = .ok (.iconst 1, 1) ∧ decode cX8_isOf 33 = .ok (.goto 4, 3) ∧ decode cX8_isOf 36 = .ok (.iconst 0, 1) ∧ decode cX8_isOf 37 = .ok (.ireturn, 1) ∧ True := dq_of (l := (0, .aload_n 0, 1) :: (1, .getfield 7, 3) :: (4, .bipush 25, 2) :: (6, .iconst 3, 1) :: (7, .iload_n 1, 1) :: (8, .imul, 1) :: (9, .iadd, 1) :: (10, .iaload, 1) :: (11, .iload_n 2, 1) :: (12, .if_icmp .ne 24, 3) :: (15, .aload_n 0, 1) :: (16, .getfield 7, 3) :: (19, .bipush 25, 2) :: (21, .iconst 3, 1) :: (22, .iload_n 1, 1) :: (23, .imul, 1) :: (24, .iadd, 1) :: (25, .iconst 1, 1) :: (26, .iadd, 1) :: (27, .iaload, 1) :: (28, .iload_n 3, 1) :: (29, .if_icmp .ne 7, 3) :: (32, .iconst 1, 1) :: (33, .goto 4, 3) :: (36, .iconst 0, 1) :: (37, .ireturn, 1) :: []) (by decide +kernel)
set_option maxRecDepth 100000 in
theorem D_X8_sheetsOf : decode cX8_sheetsOf 0 = .ok (.iconst 0, 1) ∧ decode cX8_sheetsOf 1 = .ok (.istore_n 3, 1) ∧ decode cX8_sheetsOf 2 = .ok (.iconst 0, 1) ∧ decode cX8_sheetsOf 3 = .ok (.istore 4, 2) ∧ decode cX8_sheetsOf 5 = .ok (.iload 4, 2) ∧ decode cX8_sheetsOf 7 = .ok (.iconst 4, 1) ∧ decode cX8_sheetsOf 8 = .ok (.if_icmp .ge 41, 3) ∧ decode cX8_sheetsOf 11 = .ok (.iload_n 3, 1) ∧ decode cX8_sheetsOf 12 = .ok (.aload_n 0, 1) ∧ decode cX8_sheetsOf 13 = .ok (.iload 4, 2) ∧ decode cX8_sheetsOf 15 = .ok (.iload_n 1, 1) ∧ decode cX8_sheetsOf 16 = .ok (.iload_n 2, 1) ∧ decode cX8_sheetsOf 17 = .ok (.invokevirtual 47, 3) ∧ decode cX8_sheetsOf 20 = .ok (.ifCond .eq 20, 3) ∧ decode cX8_sheetsOf 23 = .ok (.aload_n 0, 1) ∧ decode cX8_sheetsOf 24 = .ok (.getfield 7, 3) ∧ decode cX8_sheetsOf 27 = .ok (.bipush 25, 2) ∧ decode cX8_sheetsOf 29 = .ok (.iconst 3, 1) ∧ decode cX8_sheetsOf 30 = .ok (.iload 4, 2) ∧ decode cX8_sheetsOf 32 = .ok (.imul, 1) ∧ decode cX8_sheetsOf 33 = .ok (.iadd, 1) ∧ decode cX8_sheetsOf 34 = .ok (.iconst 2, 1) ∧ decode cX8_sheetsOf 35 = .ok (.iadd, 1) ∧ decode cX8_sheetsOf 36 = .ok (.iaload, 1) ∧ decode cX8_sheetsOf 37 = .ok (.goto 4, 3) ∧ decode cX8_sheetsOf 40 = .ok (.iconst 0, 1) ∧ decode cX8_sheetsOf 41 = .ok (.iadd, 1) ∧ decode cX8_sheetsOf 42 = .ok (.istore_n 3, 1) ∧ decode cX8_sheetsOf 43 = .ok (.iinc 4 1, 3) ∧ decode cX8_sheetsOf 46 = .ok (.goto (-41), 3) ∧ decode cX8_sheetsOf 49 = .ok (.iload_n 3, 1) ∧ decode cX8_sheetsOf 50 = .ok (.ireturn, 1) ∧ True := dq_of (l := (0, .iconst 0, 1) :: (1, .istore_n 3, 1) :: (2, .iconst 0, 1) :: (3, .istore 4, 2) :: (5, .iload 4, 2) :: (7, .iconst 4, 1) :: (8, .if_icmp .ge 41, 3) :: (11, .iload_n 3, 1) :: (12, .aload_n 0, 1) :: (13, .iload 4, 2) :: (15, .iload_n 1, 1) :: (16, .iload_n 2, 1) :: (17, .invokevirtual 47, 3) :: (20, .ifCond .eq 20, 3) :: (23, .aload_n 0, 1) :: (24, .getfield 7, 3) :: (27, .bipush 25, 2) :: (29, .iconst 3, 1) :: (30, .iload 4, 2) :: (32, .imul, 1) :: (33, .iadd, 1) :: (34, .iconst 2, 1) :: (35, .iadd, 1) :: (36, .iaload, 1) :: (37, .goto 4, 3) :: (40, .iconst 0, 1) :: (41, .iadd, 1) :: (42, .istore_n 3, 1) :: (43, .iinc 4 1, 3) :: (46, .goto (-41), 3) :: (49, .iload_n 3, 1) :: (50, .ireturn, 1) :: []) (by decide +kernel)
set_option maxRecDepth 100000 in
theorem D_X8_tray : decode cX8_tray 0 = .ok (.iload_n 1, 1) ∧ decode cX8_tray 1 = .ok (.invokestatic 36, 3) ∧ decode cX8_tray 4 = .ok (.ifCond .eq 12, 3) ∧ decode cX8_tray 7 = .ok (.iload_n 2, 1) ∧ decode cX8_tray 8 = .ok (.iconst 0, 1) ∧ decode cX8_tray 9 = .ok (.iconst 3, 1) ∧ decode cX8_tray 10 = .ok (.invokestatic 32, 3) ∧ decode cX8_tray 13 = .ok (.ifCond .ne 5, 3) ∧ decode cX8_tray 16 = .ok (.iconst (-1), 1) ∧ decode cX8_tray 17 = .ok (.ireturn, 1) ∧ decode cX8_tray 18 = .ok (.bipush 25, 2) ∧ decode cX8_tray 20 = .ok (.iconst 3, 1) ∧ decode cX8_tray 21 = .ok (.iload_n 1, 1) ∧ decode cX8_tray 22 = .ok (.imul, 1) ∧ decode cX8_tray 23 = .ok (.iadd, 1) ∧ decode cX8_tray 24 = .ok (.istore_n 3, 1) ∧ decode cX8_tray 25 = .ok (.iload_n 2, 1) ∧ decode cX8_tray 26 = .ok (.iconst 3, 1) ∧ decode cX8_tray 27 = .ok (.if_icmp .ge 14, 3) ∧ decode cX8_tray 30 = .ok (.aload_n 0, 1) ∧ decode cX8_tray 31 = .ok (.getfield 7, 3) ∧ decode cX8_tray 34 = .ok (.iload_n 3, 1) ∧ decode cX8_tray 35 = .ok (.iload_n 2, 1) ∧ decode cX8_tray 36 = .ok (.iadd, 1) ∧ decode cX8_tray 37 = .ok (.iaload, 1) ∧ decode cX8_tray 38 = .ok (.goto 21, 3) ∧ decode cX8_tray 41 = .ok (.aload_n 0, 1) ∧ decode cX8_tray 42 = .ok (.aload_n 0, 1) ∧ decode cX8_tray 43 = .ok (.getfield 7, 3) ∧ decode cX8_tray 46 = .ok (.iload_n 3, 1) ∧ decode cX8_tray 47 = .ok (.iaload, 1) ∧ decode cX8_tray 48 = .ok (.aload_n 0, 1) ∧ decode cX8_tray 49 = .ok (.getfield 7, 3) ∧ decode cX8_tray 52 = .ok (.iload_n 3, 1) ∧ decode cX8_tray 53 = .ok (.iconst 1, 1) ∧ decode cX8_tray 54 = .ok (.iadd, 1) ∧ decode cX8_tray 55 = .ok (.iaload, 1) ∧ decode cX8_tray 56 = .ok (.invokevirtual 50, 3) ∧ decode cX8_tray 59 = .ok (.ireturn, 1) ∧ True := dq_of (l := (0, .iload_n 1, 1) :: (1, .invokestatic 36, 3) :: (4, .ifCond .eq 12, 3) :: (7, .iload_n 2, 1) :: (8, .iconst 0, 1) :: (9, .iconst 3, 1) :: (10, .invokestatic 32, 3) :: (13, .ifCond .ne 5, 3) :: (16, .iconst (-1), 1) :: (17, .ireturn, 1) :: (18, .bipush 25, 2) :: (20, .iconst 3, 1) :: (21, .iload_n 1, 1) :: (22, .imul, 1) :: (23, .iadd, 1) :: (24, .istore_n 3, 1) :: (25, .iload_n 2, 1) :: (26, .iconst 3, 1) :: (27, .if_icmp .ge 14, 3) :: (30, .aload_n 0, 1) :: (31, .getfield 7, 3) :: (34, .iload_n 3, 1) :: (35, .iload_n 2, 1) :: (36, .iadd, 1) :: (37, .iaload, 1) :: (38, .goto 21, 3) :: (41, .aload_n 0, 1) :: (42, .aload_n 0, 1) :: (43, .getfield 7, 3) :: (46, .iload_n 3, 1) :: (47, .iaload, 1) :: (48, .aload_n 0, 1) :: (49, .getfield 7, 3) :: (52, .iload_n 3, 1) :: (53, .iconst 1, 1) :: (54, .iadd, 1) :: (55, .iaload, 1) :: (56, .invokevirtual 50, 3) :: (59, .ireturn, 1) :: []) (by decide +kernel)
set_option maxRecDepth 100000 in
theorem D_X8_puts : decode cX8_puts 0 = .ok (.aload_n 0, 1) ∧ decode cX8_puts 1 = .ok (.invokevirtual 40, 3) ∧ decode cX8_puts 4 = .ok (.aload_n 0, 1) ∧ decode cX8_puts 5 = .ok (.getfield 7, 3) ∧ decode cX8_puts 8 = .ok (.iload_n 1, 1) ∧ decode cX8_puts 9 = .ok (.iaload, 1) ∧ decode cX8_puts 10 = .ok (.istore_n 3, 1) ∧ decode cX8_puts 11 = .ok (.aload_n 0, 1) ∧ decode cX8_puts 12 = .ok (.getfield 7, 3) ∧ decode cX8_puts 15 = .ok (.iload_n 1, 1) ∧ decode cX8_puts 16 = .ok (.iload_n 2, 1) ∧ decode cX8_puts 17 = .ok (.iastore, 1) ∧ decode cX8_puts 18 = .ok (.iload_n 3, 1) ∧ decode cX8_puts 19 = .ok (.ireturn, 1) ∧ True := dq_of (l := (0, .aload_n 0, 1) :: (1, .invokevirtual 40, 3) :: (4, .aload_n 0, 1) :: (5, .getfield 7, 3) :: (8, .iload_n 1, 1) :: (9, .iaload, 1) :: (10, .istore_n 3, 1) :: (11, .aload_n 0, 1) :: (12, .getfield 7, 3) :: (15, .iload_n 1, 1) :: (16, .iload_n 2, 1) :: (17, .iastore, 1) :: (18, .iload_n 3, 1) :: (19, .ireturn, 1) :: []) (by decide +kernel)
set_option maxRecDepth 100000 in
theorem D_X8_staples : decode cX8_staples 0 = .ok (.iload_n 1, 1) ∧ decode cX8_staples 1 = .ok (.iconst 0, 1) ∧ decode cX8_staples 2 = .ok (.sipush 5000, 3) ∧ decode cX8_staples 5 = .ok (.invokestatic 32, 3) ∧ decode cX8_staples 8 = .ok (.ifCond .eq 12, 3) ∧ decode cX8_staples 11 = .ok (.aload_n 0, 1) ∧ decode cX8_staples 12 = .ok (.iconst 3, 1) ∧ decode cX8_staples 13 = .ok (.iload_n 1, 1) ∧ decode cX8_staples 14 = .ok (.invokevirtual 54, 3) ∧ decode cX8_staples 17 = .ok (.goto 4, 3) ∧ decode cX8_staples 20 = .ok (.iconst (-1), 1) ∧ decode cX8_staples 21 = .ok (.ireturn, 1) ∧ True := dq_of (l := (0, .iload_n 1, 1) :: (1, .iconst 0, 1) :: (2, .sipush 5000, 3) :: (5, .invokestatic 32, 3) :: (8, .ifCond .eq 12, 3) :: (11, .aload_n 0, 1) :: (12, .iconst 3, 1) :: (13, .iload_n 1, 1) :: (14, .invokevirtual 54, 3) :: (17, .goto 4, 3) :: (20, .iconst (-1), 1) :: (21, .ireturn, 1) :: []) (by decide +kernel)
set_option maxRecDepth 100000 in
theorem D_X8_emptyBin : decode cX8_emptyBin 0 = .ok (.aload_n 0, 1) ∧ decode cX8_emptyBin 1 = .ok (.iconst 2, 1) ∧ decode cX8_emptyBin 2 = .ok (.iconst 0, 1) ∧ decode cX8_emptyBin 3 = .ok (.invokevirtual 54, 3) ∧ decode cX8_emptyBin 6 = .ok (.ireturn, 1) ∧ True := dq_of (l := (0, .aload_n 0, 1) :: (1, .iconst 2, 1) :: (2, .iconst 0, 1) :: (3, .invokevirtual 54, 3) :: (6, .ireturn, 1) :: []) (by decide +kernel)
set_option maxRecDepth 100000 in
theorem D_X8_isSetting : decode cX8_isSetting 0 = .ok (.iload_n 0, 1) ∧ decode cX8_isSetting 1 = .ok (.tableswitch 68 0 4 #[35, 43, 43, 51, 59], 35) ∧ decode cX8_isSetting 36 = .ok (.iload_n 1, 1) ∧ decode cX8_isSetting 37 = .ok (.iconst 1, 1) ∧ decode cX8_isSetting 38 = .ok (.bipush 20, 2) ∧ decode cX8_isSetting 40 = .ok (.invokestatic 32, 3) ∧ decode cX8_isSetting 43 = .ok (.ireturn, 1) ∧ decode cX8_isSetting 44 = .ok (.iload_n 1, 1) ∧ decode cX8_isSetting 45 = .ok (.iconst 0, 1) ∧ decode cX8_isSetting 46 = .ok (.bipush 20, 2) ∧ decode cX8_isSetting 48 = .ok (.invokestatic 32, 3) ∧ decode cX8_isSetting 51 = .ok (.ireturn, 1) ∧ decode cX8_isSetting 52 = .ok (.iload_n 1, 1) ∧ decode cX8_isSetting 53 = .ok (.iconst 2, 1) ∧ decode cX8_isSetting 54 = .ok (.bipush 100, 2) ∧ decode cX8_isSetting 56 = .ok (.invokestatic 32, 3) ∧ decode cX8_isSetting 59 = .ok (.ireturn, 1) ∧ decode cX8_isSetting 60 = .ok (.iload_n 1, 1) ∧ decode cX8_isSetting 61 = .ok (.iconst 0, 1) ∧ decode cX8_isSetting 62 = .ok (.sipush 500, 3) ∧ decode cX8_isSetting 65 = .ok (.invokestatic 32, 3) ∧ decode cX8_isSetting 68 = .ok (.ireturn, 1) ∧ decode cX8_isSetting 69 = .ok (.iload_n 0, 1) ∧ decode cX8_isSetting 70 = .ok (.iconst 5, 1) ∧ decode cX8_isSetting 71 = .ok (.if_icmp .ne 18, 3) ∧ decode cX8_isSetting 74 = .ok (.iload_n 1, 1) ∧ decode cX8_isSetting 75 = .ok (.iconst 1, 1) ∧ decode cX8_isSetting 76 = .ok (.sipush 1000, 3) ∧ decode cX8_isSetting 79 = .ok (.invokestatic 32, 3) ∧ decode cX8_isSetting 82 = .ok (.ifCond .eq 7, 3) ∧ decode cX8_isSetting 85 = .ok (.iconst 1, 1) ∧ decode cX8_isSetting 86 = .ok (.goto 4, 3) ∧ decode cX8_isSetting 89 = .ok (.iconst 0, 1) ∧ decode cX8_isSetting 90 = .ok (.ireturn, 1) ∧ True := dq_of (l := (0, .iload_n 0, 1) :: (1, .tableswitch 68 0 4 #[35, 43, 43, 51, 59], 35) :: (36, .iload_n 1, 1) :: (37, .iconst 1, 1) :: (38, .bipush 20, 2) :: (40, .invokestatic 32, 3) :: (43, .ireturn, 1) :: (44, .iload_n 1, 1) :: (45, .iconst 0, 1) :: (46, .bipush 20, 2) :: (48, .invokestatic 32, 3) :: (51, .ireturn, 1) :: (52, .iload_n 1, 1) :: (53, .iconst 2, 1) :: (54, .bipush 100, 2) :: (56, .invokestatic 32, 3) :: (59, .ireturn, 1) :: (60, .iload_n 1, 1) :: (61, .iconst 0, 1) :: (62, .sipush 500, 3) :: (65, .invokestatic 32, 3) :: (68, .ireturn, 1) :: (69, .iload_n 0, 1) :: (70, .iconst 5, 1) :: (71, .if_icmp .ne 18, 3) :: (74, .iload_n 1, 1) :: (75, .iconst 1, 1) :: (76, .sipush 1000, 3) :: (79, .invokestatic 32, 3) :: (82, .ifCond .eq 7, 3) :: (85, .iconst 1, 1) :: (86, .goto 4, 3) :: (89, .iconst 0, 1) :: (90, .ireturn, 1) :: []) (by decide +kernel)
set_option maxRecDepth 100000 in
theorem D_X8_set : decode cX8_set 0 = .ok (.iload_n 1, 1) ∧ decode cX8_set 1 = .ok (.iload_n 2, 1) ∧ decode cX8_set 2 = .ok (.invokestatic 57, 3) ∧ decode cX8_set 5 = .ok (.ifCond .eq 15, 3) ∧ decode cX8_set 8 = .ok (.aload_n 0, 1) ∧ decode cX8_set 9 = .ok (.bipush 10, 2) ∧ decode cX8_set 11 = .ok (.iload_n 1, 1) ∧ decode cX8_set 12 = .ok (.iadd, 1) ∧ decode cX8_set 13 = .ok (.iload_n 2, 1) ∧ decode cX8_set 14 = .ok (.invokevirtual 54, 3) ∧ decode cX8_set 17 = .ok (.goto 4, 3) ∧ decode cX8_set 20 = .ok (.iconst (-1), 1) ∧ decode cX8_set 21 = .ok (.ireturn, 1) ∧ True := dq_of (l := (0, .iload_n 1, 1) :: (1, .iload_n 2, 1) :: (2, .invokestatic 57, 3) :: (5, .ifCond .eq 15, 3) :: (8, .aload_n 0, 1) :: (9, .bipush 10, 2) :: (11, .iload_n 1, 1) :: (12, .iadd, 1) :: (13, .iload_n 2, 1) :: (14, .invokevirtual 54, 3) :: (17, .goto 4, 3) :: (20, .iconst (-1), 1) :: (21, .ireturn, 1) :: []) (by decide +kernel)
set_option maxRecDepth 100000 in
theorem D_X8_jobAt : decode cX8_jobAt 0 = .ok (.bipush 85, 2) ∧ decode cX8_jobAt 2 = .ok (.bipush 10, 2) ∧ decode cX8_jobAt 4 = .ok (.iload_n 0, 1) ∧ decode cX8_jobAt 5 = .ok (.imul, 1) ∧ decode cX8_jobAt 6 = .ok (.iadd, 1) ∧ decode cX8_jobAt 7 = .ok (.ireturn, 1) ∧ True := dq_of (l := (0, .bipush 85, 2) :: (2, .bipush 10, 2) :: (4, .iload_n 0, 1) :: (5, .imul, 1) :: (6, .iadd, 1) :: (7, .ireturn, 1) :: []) (by decide +kernel)
set_option maxRecDepth 100000 in
theorem D_X8_of : decode cX8_of 0 = .ok (.aload_n 0, 1) ∧ decode cX8_of 1 = .ok (.getfield 7, 3) ∧ decode cX8_of 4 = .ok (.iload_n 1, 1) ∧ decode cX8_of 5 = .ok (.invokestatic 60, 3) ∧ decode cX8_of 8 = .ok (.iload_n 2, 1) ∧ decode cX8_of 9 = .ok (.iadd, 1) ∧ decode cX8_of 10 = .ok (.iaload, 1) ∧ decode cX8_of 11 = .ok (.ireturn, 1) ∧ True := dq_of (l := (0, .aload_n 0, 1) :: (1, .getfield 7, 3) :: (4, .iload_n 1, 1) :: (5, .invokestatic 60, 3) :: (8, .iload_n 2, 1) :: (9, .iadd, 1) :: (10, .iaload, 1) :: (11, .ireturn, 1) :: []) (by decide +kernel)
set_option maxRecDepth 100000 in
theorem D_X8_placeOf : decode cX8_placeOf 0 = .ok (.iconst 0, 1) ∧ decode cX8_placeOf 1 = .ok (.istore_n 2, 1) ∧ decode cX8_placeOf 2 = .ok (.iload_n 2, 1) ∧ decode cX8_placeOf 3 = .ok (.aload_n 0, 1) ∧ decode cX8_placeOf 4 = .ok (.getfield 7, 3) ∧ decode cX8_placeOf 7 = .ok (.iconst 0, 1) ∧ decode cX8_placeOf 8 = .ok (.iaload, 1) ∧ decode cX8_placeOf 9 = .ok (.if_icmp .ge 21, 3) ∧ decode cX8_placeOf 12 = .ok (.aload_n 0, 1) ∧ decode cX8_placeOf 13 = .ok (.iload_n 2, 1) ∧ decode cX8_placeOf 14 = .ok (.iconst 0, 1) ∧ decode cX8_placeOf 15 = .ok (.invokevirtual 64, 3) ∧ decode cX8_placeOf 18 = .ok (.iload_n 1, 1) ∧ decode cX8_placeOf 19 = .ok (.if_icmp .ne 5, 3) ∧ decode cX8_placeOf 22 = .ok (.iload_n 2, 1) ∧ decode cX8_placeOf 23 = .ok (.ireturn, 1) ∧ decode cX8_placeOf 24 = .ok (.iinc 2 1, 3) ∧ decode cX8_placeOf 27 = .ok (.goto (-25), 3) ∧ decode cX8_placeOf 30 = .ok (.iconst (-1), 1) ∧ decode cX8_placeOf 31 = .ok (.ireturn, 1) ∧ True := dq_of (l := (0, .iconst 0, 1) :: (1, .istore_n 2, 1) :: (2, .iload_n 2, 1) :: (3, .aload_n 0, 1) :: (4, .getfield 7, 3) :: (7, .iconst 0, 1) :: (8, .iaload, 1) :: (9, .if_icmp .ge 21, 3) :: (12, .aload_n 0, 1) :: (13, .iload_n 2, 1) :: (14, .iconst 0, 1) :: (15, .invokevirtual 64, 3) :: (18, .iload_n 1, 1) :: (19, .if_icmp .ne 5, 3) :: (22, .iload_n 2, 1) :: (23, .ireturn, 1) :: (24, .iinc 2 1, 3) :: (27, .goto (-25), 3) :: (30, .iconst (-1), 1) :: (31, .ireturn, 1) :: []) (by decide +kernel)
set_option maxRecDepth 100000 in
theorem D_X8_setOf : decode cX8_setOf 0 = .ok (.iload_n 1, 1) ∧ decode cX8_setOf 1 = .ok (.iconst 1, 1) ∧ decode cX8_setOf 2 = .ok (.iand, 1) ∧ decode cX8_setOf 3 = .ok (.iconst 1, 1) ∧ decode cX8_setOf 4 = .ok (.if_icmp .ne 11, 3) ∧ decode cX8_setOf 7 = .ok (.iload_n 0, 1) ∧ decode cX8_setOf 8 = .ok (.iconst 1, 1) ∧ decode cX8_setOf 9 = .ok (.iadd, 1) ∧ decode cX8_setOf 10 = .ok (.iconst 2, 1) ∧ decode cX8_setOf 11 = .ok (.idiv, 1) ∧ decode cX8_setOf 12 = .ok (.goto 4, 3) ∧ decode cX8_setOf 15 = .ok (.iload_n 0, 1) ∧ decode cX8_setOf 16 = .ok (.ireturn, 1) ∧ True := dq_of (l := (0, .iload_n 1, 1) :: (1, .iconst 1, 1) :: (2, .iand, 1) :: (3, .iconst 1, 1) :: (4, .if_icmp .ne 11, 3) :: (7, .iload_n 0, 1) :: (8, .iconst 1, 1) :: (9, .iadd, 1) :: (10, .iconst 2, 1) :: (11, .idiv, 1) :: (12, .goto 4, 3) :: (15, .iload_n 0, 1) :: (16, .ireturn, 1) :: []) (by decide +kernel)
set_option maxRecDepth 100000 in
theorem D_X8_whyNot : decode cX8_whyNot 0 = .ok (.iload_n 3, 1) ∧ decode cX8_whyNot 1 = .ok (.iconst 4, 1) ∧ decode cX8_whyNot 2 = .ok (.if_icmp .ge 5, 3) ∧ decode cX8_whyNot 5 = .ok (.iconst 0, 1) ∧ decode cX8_whyNot 6 = .ok (.ireturn, 1) ∧ decode cX8_whyNot 7 = .ok (.iload_n 1, 1) ∧ decode cX8_whyNot 8 = .ok (.iload_n 3, 1) ∧ decode cX8_whyNot 9 = .ok (.invokestatic 67, 3) ∧ decode cX8_whyNot 12 = .ok (.istore 4, 2) ∧ decode cX8_whyNot 14 = .ok (.iload_n 2, 1) ∧ decode cX8_whyNot 15 = .ok (.iconst 1, 1) ∧ decode cX8_whyNot 16 = .ok (.if_icmp .ne 15, 3) ∧ decode cX8_whyNot 19 = .ok (.aload_n 0, 1) ∧ decode cX8_whyNot 20 = .ok (.getfield 7, 3) ∧ decode cX8_whyNot 23 = .ok (.bipush 13, 2) ∧ decode cX8_whyNot 25 = .ok (.iaload, 1) ∧ decode cX8_whyNot 26 = .ok (.iconst 2, 1) ∧ decode cX8_whyNot 27 = .ok (.idiv, 1) ∧ decode cX8_whyNot 28 = .ok (.goto 10, 3) ∧ decode cX8_whyNot 31 = .ok (.aload_n 0, 1) ∧ decode cX8_whyNot 32 = .ok (.getfield 7, 3) ∧ decode cX8_whyNot 35 = .ok (.bipush 13, 2) ∧ decode cX8_whyNot 37 = .ok (.iaload, 1) ∧ decode cX8_whyNot 38 = .ok (.istore 5, 2) ∧ decode cX8_whyNot 40 = .ok (.iload_n 3, 1) ∧ decode cX8_whyNot 41 = .ok (.iconst 2, 1) ∧ decode cX8_whyNot 42 = .ok (.iand, 1) ∧ decode cX8_whyNot 43 = .ok (.ifCond .ne 7, 3) ∧ decode cX8_whyNot 46 = .ok (.iconst 1, 1) ∧ decode cX8_whyNot 47 = .ok (.goto 34, 3) ∧ decode cX8_whyNot 50 = .ok (.iload_n 2, 1) ∧ decode cX8_whyNot 51 = .ok (.iconst 3, 1) ∧ decode cX8_whyNot 52 = .ok (.if_icmp .ne 7, 3) ∧ decode cX8_whyNot 55 = .ok (.iconst 2, 1) ∧ decode cX8_whyNot 56 = .ok (.goto 25, 3) ∧ decode cX8_whyNot 59 = .ok (.iload 4, 2) ∧ decode cX8_whyNot 61 = .ok (.iconst 1, 1) ∧ decode cX8_whyNot 62 = .ok (.if_icmp .ne 7, 3) ∧ decode cX8_whyNot 65 = .ok (.iconst 3, 1) ∧ decode cX8_whyNot 66 = .ok (.goto 15, 3) ∧ decode cX8_whyNot 69 = .ok (.iload 4, 2) ∧ decode cX8_whyNot 71 = .ok (.iload 5, 2) ∧ decode cX8_whyNot 73 = .ok (.if_icmp .le 7, 3) ∧ decode cX8_whyNot 76 = .ok (.iconst 4, 1) ∧ decode cX8_whyNot 77 = .ok (.goto 4, 3) ∧ decode cX8_whyNot 80 = .ok (.iconst 0, 1) ∧ decode cX8_whyNot 81 = .ok (.ireturn, 1) ∧ True := dq_of (l := (0, .iload_n 3, 1) :: (1, .iconst 4, 1) :: (2, .if_icmp .ge 5, 3) :: (5, .iconst 0, 1) :: (6, .ireturn, 1) :: (7, .iload_n 1, 1) :: (8, .iload_n 3, 1) :: (9, .invokestatic 67, 3) :: (12, .istore 4, 2) :: (14, .iload_n 2, 1) :: (15, .iconst 1, 1) :: (16, .if_icmp .ne 15, 3) :: (19, .aload_n 0, 1) :: (20, .getfield 7, 3) :: (23, .bipush 13, 2) :: (25, .iaload, 1) :: (26, .iconst 2, 1) :: (27, .idiv, 1) :: (28, .goto 10, 3) :: (31, .aload_n 0, 1) :: (32, .getfield 7, 3) :: (35, .bipush 13, 2) :: (37, .iaload, 1) :: (38, .istore 5, 2) :: (40, .iload_n 3, 1) :: (41, .iconst 2, 1) :: (42, .iand, 1) :: (43, .ifCond .ne 7, 3) :: (46, .iconst 1, 1) :: (47, .goto 34, 3) :: (50, .iload_n 2, 1) :: (51, .iconst 3, 1) :: (52, .if_icmp .ne 7, 3) :: (55, .iconst 2, 1) :: (56, .goto 25, 3) :: (59, .iload 4, 2) :: (61, .iconst 1, 1) :: (62, .if_icmp .ne 7, 3) :: (65, .iconst 3, 1) :: (66, .goto 15, 3) :: (69, .iload 4, 2) :: (71, .iload 5, 2) :: (73, .if_icmp .le 7, 3) :: (76, .iconst 4, 1) :: (77, .goto 4, 3) :: (80, .iconst 0, 1) :: (81, .ireturn, 1) :: []) (by decide +kernel)
set_option maxRecDepth 100000 in
theorem D_X8_comes : decode cX8_comes 0 = .ok (.aload_n 0, 1) ∧ decode cX8_comes 1 = .ok (.getfield 7, 3) ∧ decode cX8_comes 4 = .ok (.iconst 0, 1) ∧ decode cX8_comes 5 = .ok (.iaload, 1) ∧ decode cX8_comes 6 = .ok (.invokestatic 60, 3) ∧ decode cX8_comes 9 = .ok (.istore 6, 2) ∧ decode cX8_comes 11 = .ok (.aload_n 0, 1) ∧ decode cX8_comes 12 = .ok (.getfield 7, 3) ∧ decode cX8_comes 15 = .ok (.iload 6, 2) ∧ decode cX8_comes 17 = .ok (.iconst 0, 1) ∧ decode cX8_comes 18 = .ok (.iadd, 1) ∧ decode cX8_comes 19 = .ok (.aload_n 0, 1) ∧ decode cX8_comes 20 = .ok (.getfield 7, 3) ∧ decode cX8_comes 23 = .ok (.iconst 1, 1) ∧ decode cX8_comes 24 = .ok (.iaload, 1) ∧ decode cX8_comes 25 = .ok (.iastore, 1) ∧ decode cX8_comes 26 = .ok (.aload_n 0, 1) ∧ decode cX8_comes 27 = .ok (.getfield 7, 3) ∧ decode cX8_comes 30 = .ok (.iload 6, 2) ∧ decode cX8_comes 32 = .ok (.iconst 1, 1) ∧ decode cX8_comes 33 = .ok (.iadd, 1) ∧ decode cX8_comes 34 = .ok (.iload_n 1, 1) ∧ decode cX8_comes 35 = .ok (.iastore, 1) ∧ decode cX8_comes 36 = .ok (.aload_n 0, 1) ∧ decode cX8_comes 37 = .ok (.getfield 7, 3) ∧ decode cX8_comes 40 = .ok (.iload 6, 2) ∧ decode cX8_comes 42 = .ok (.iconst 2, 1) ∧ decode cX8_comes 43 = .ok (.iadd, 1) ∧ decode cX8_comes 44 = .ok (.iload_n 2, 1) ∧ decode cX8_comes 45 = .ok (.iastore, 1) ∧ decode cX8_comes 46 = .ok (.aload_n 0, 1) ∧ decode cX8_comes 47 = .ok (.getfield 7, 3) ∧ decode cX8_comes 50 = .ok (.iload 6, 2) ∧ decode cX8_comes 52 = .ok (.iconst 3, 1) ∧ decode cX8_comes 53 = .ok (.iadd, 1) ∧ decode cX8_comes 54 = .ok (.iload_n 3, 1) ∧ decode cX8_comes 55 = .ok (.iastore, 1) ∧ decode cX8_comes 56 = .ok (.aload_n 0, 1) ∧ decode cX8_comes 57 = .ok (.getfield 7, 3) ∧ decode cX8_comes 60 = .ok (.iload 6, 2) ∧ decode cX8_comes 62 = .ok (.iconst 4, 1) ∧ decode cX8_comes 63 = .ok (.iadd, 1) ∧ decode cX8_comes 64 = .ok (.iload 4, 2) ∧ decode cX8_comes 66 = .ok (.iastore, 1) ∧ decode cX8_comes 67 = .ok (.aload_n 0, 1) ∧ decode cX8_comes 68 = .ok (.getfield 7, 3) ∧ decode cX8_comes 71 = .ok (.iload 6, 2) ∧ decode cX8_comes 73 = .ok (.iconst 5, 1) ∧ decode cX8_comes 74 = .ok (.iadd, 1) ∧ decode cX8_comes 75 = .ok (.iload 5, 2) ∧ decode cX8_comes 77 = .ok (.iastore, 1) ∧ decode cX8_comes 78 = .ok (.bipush 6, 2) ∧ decode cX8_comes 80 = .ok (.istore 7, 2) ∧ decode cX8_comes 82 = .ok (.iload 7, 2) ∧ decode cX8_comes 84 = .ok (.bipush 9, 2) ∧ decode cX8_comes 86 = .ok (.if_icmp .gt 20, 3) ∧ decode cX8_comes 89 = .ok (.aload_n 0, 1) ∧ decode cX8_comes 90 = .ok (.getfield 7, 3) ∧ decode cX8_comes 93 = .ok (.iload 6, 2) ∧ decode cX8_comes 95 = .ok (.iload 7, 2) ∧ decode cX8_comes 97 = .ok (.iadd, 1) ∧ decode cX8_comes 98 = .ok (.iconst 0, 1) ∧ decode cX8_comes 99 = .ok (.iastore, 1) ∧ decode cX8_comes 100 = .ok (.iinc 7 1, 3) ∧ decode cX8_comes 103 = .ok (.goto (-21), 3) ∧ decode cX8_comes 106 = .ok (.aload_n 0, 1) ∧ decode cX8_comes 107 = .ok (.getfield 7, 3) ∧ decode cX8_comes 110 = .ok (.iconst 0, 1) ∧ decode cX8_comes 111 = .ok (.dup2, 1) ∧ decode cX8_comes 112 = .ok (.iaload, 1) ∧ decode cX8_comes 113 = .ok (.iconst 1, 1) ∧ decode cX8_comes 114 = .ok (.iadd, 1) ∧ decode cX8_comes 115 = .ok (.iastore, 1) ∧ decode cX8_comes 116 = .ok (.aload_n 0, 1) ∧ decode cX8_comes 117 = .ok (.getfield 7, 3) ∧ decode cX8_comes 120 = .ok (.iconst 1, 1) ∧ decode cX8_comes 121 = .ok (.dup2, 1) ∧ decode cX8_comes 122 = .ok (.iaload, 1) ∧ decode cX8_comes 123 = .ok (.iconst 1, 1) ∧ decode cX8_comes 124 = .ok (.iadd, 1) ∧ decode cX8_comes 125 = .ok (.iastore, 1) ∧ decode cX8_comes 126 = .ok (.aload_n 0, 1) ∧ decode cX8_comes 127 = .ok (.getfield 7, 3) ∧ decode cX8_comes 130 = .ok (.iconst 1, 1) ∧ decode cX8_comes 131 = .ok (.iaload, 1) ∧ decode cX8_comes 132 = .ok (.iconst 1, 1) ∧ decode cX8_comes 133 = .ok (.isub, 1) ∧ decode cX8_comes 134 = .ok (.ireturn, 1) ∧ True := dq_of (l := (0, .aload_n 0, 1) :: (1, .getfield 7, 3) :: (4, .iconst 0, 1) :: (5, .iaload, 1) :: (6, .invokestatic 60, 3) :: (9, .istore 6, 2) :: (11, .aload_n 0, 1) :: (12, .getfield 7, 3) :: (15, .iload 6, 2) :: (17, .iconst 0, 1) :: (18, .iadd, 1) :: (19, .aload_n 0, 1) :: (20, .getfield 7, 3) :: (23, .iconst 1, 1) :: (24, .iaload, 1) :: (25, .iastore, 1) :: (26, .aload_n 0, 1) :: (27, .getfield 7, 3) :: (30, .iload 6, 2) :: (32, .iconst 1, 1) :: (33, .iadd, 1) :: (34, .iload_n 1, 1) :: (35, .iastore, 1) :: (36, .aload_n 0, 1) :: (37, .getfield 7, 3) :: (40, .iload 6, 2) :: (42, .iconst 2, 1) :: (43, .iadd, 1) :: (44, .iload_n 2, 1) :: (45, .iastore, 1) :: (46, .aload_n 0, 1) :: (47, .getfield 7, 3) :: (50, .iload 6, 2) :: (52, .iconst 3, 1) :: (53, .iadd, 1) :: (54, .iload_n 3, 1) :: (55, .iastore, 1) :: (56, .aload_n 0, 1) :: (57, .getfield 7, 3) :: (60, .iload 6, 2) :: (62, .iconst 4, 1) :: (63, .iadd, 1) :: (64, .iload 4, 2) :: (66, .iastore, 1) :: (67, .aload_n 0, 1) :: (68, .getfield 7, 3) :: (71, .iload 6, 2) :: (73, .iconst 5, 1) :: (74, .iadd, 1) :: (75, .iload 5, 2) :: (77, .iastore, 1) :: (78, .bipush 6, 2) :: (80, .istore 7, 2) :: (82, .iload 7, 2) :: (84, .bipush 9, 2) :: (86, .if_icmp .gt 20, 3) :: (89, .aload_n 0, 1) :: (90, .getfield 7, 3) :: (93, .iload 6, 2) :: (95, .iload 7, 2) :: (97, .iadd, 1) :: (98, .iconst 0, 1) :: (99, .iastore, 1) :: (100, .iinc 7 1, 3) :: (103, .goto (-21), 3) :: (106, .aload_n 0, 1) :: (107, .getfield 7, 3) :: (110, .iconst 0, 1) :: (111, .dup2, 1) :: (112, .iaload, 1) :: (113, .iconst 1, 1) :: (114, .iadd, 1) :: (115, .iastore, 1) :: (116, .aload_n 0, 1) :: (117, .getfield 7, 3) :: (120, .iconst 1, 1) :: (121, .dup2, 1) :: (122, .iaload, 1) :: (123, .iconst 1, 1) :: (124, .iadd, 1) :: (125, .iastore, 1) :: (126, .aload_n 0, 1) :: (127, .getfield 7, 3) :: (130, .iconst 1, 1) :: (131, .iaload, 1) :: (132, .iconst 1, 1) :: (133, .isub, 1) :: (134, .ireturn, 1) :: []) (by decide +kernel)
set_option maxRecDepth 100000 in
theorem D_X8_isPages : decode cX8_isPages 0 = .ok (.iload_n 0, 1) ∧ decode cX8_isPages 1 = .ok (.iconst 1, 1) ∧ decode cX8_isPages 2 = .ok (.sipush 200, 3) ∧ decode cX8_isPages 5 = .ok (.invokestatic 32, 3) ∧ decode cX8_isPages 8 = .ok (.ireturn, 1) ∧ True := dq_of (l := (0, .iload_n 0, 1) :: (1, .iconst 1, 1) :: (2, .sipush 200, 3) :: (5, .invokestatic 32, 3) :: (8, .ireturn, 1) :: []) (by decide +kernel)
set_option maxRecDepth 100000 in
theorem D_X8_isCopies : decode cX8_isCopies 0 = .ok (.iload_n 0, 1) ∧ decode cX8_isCopies 1 = .ok (.iconst 1, 1) ∧ decode cX8_isCopies 2 = .ok (.bipush 50, 2) ∧ decode cX8_isCopies 4 = .ok (.invokestatic 32, 3) ∧ decode cX8_isCopies 7 = .ok (.ireturn, 1) ∧ True := dq_of (l := (0, .iload_n 0, 1) :: (1, .iconst 1, 1) :: (2, .bipush 50, 2) :: (4, .invokestatic 32, 3) :: (7, .ireturn, 1) :: []) (by decide +kernel)
set_option maxRecDepth 100000 in
theorem D_X8_job : decode cX8_job 0 = .ok (.iload_n 1, 1) ∧ decode cX8_job 1 = .ok (.invokestatic 70, 3) ∧ decode cX8_job 4 = .ok (.ifCond .eq 30, 3) ∧ decode cX8_job 7 = .ok (.iload_n 2, 1) ∧ decode cX8_job 8 = .ok (.invokestatic 73, 3) ∧ decode cX8_job 11 = .ok (.ifCond .eq 23, 3) ∧ decode cX8_job 14 = .ok (.iload_n 3, 1) ∧ decode cX8_job 15 = .ok (.iload 4, 2) ∧ decode cX8_job 17 = .ok (.invokestatic 43, 3) ∧ decode cX8_job 20 = .ok (.ifCond .eq 14, 3) ∧ decode cX8_job 23 = .ok (.iload 5, 2) ∧ decode cX8_job 25 = .ok (.iconst 0, 1) ∧ decode cX8_job 26 = .ok (.bipush 11, 2) ∧ decode cX8_job 28 = .ok (.invokestatic 32, 3) ∧ decode cX8_job 31 = .ok (.ifCond .ne 5, 3) ∧ decode cX8_job 34 = .ok (.iconst (-1), 1) ∧ decode cX8_job 35 = .ok (.ireturn, 1) ∧ decode cX8_job 36 = .ok (.aload_n 0, 1) ∧ decode cX8_job 37 = .ok (.iload_n 1, 1) ∧ decode cX8_job 38 = .ok (.iload 4, 2) ∧ decode cX8_job 40 = .ok (.iload 5, 2) ∧ decode cX8_job 42 = .ok (.invokevirtual 76, 3) ∧ decode cX8_job 45 = .ok (.istore 6, 2) ∧ decode cX8_job 47 = .ok (.iload 6, 2) ∧ decode cX8_job 49 = .ok (.ifCond .le 12, 3) ∧ decode cX8_job 52 = .ok (.aload_n 0, 1) ∧ decode cX8_job 53 = .ok (.iload 6, 2) ∧ decode cX8_job 55 = .ok (.putfield 19, 3) ∧ decode cX8_job 58 = .ok (.bipush (-2), 2) ∧ decode cX8_job 60 = .ok (.ireturn, 1) ∧ decode cX8_job 61 = .ok (.aload_n 0, 1) ∧ decode cX8_job 62 = .ok (.getfield 7, 3) ∧ decode cX8_job 65 = .ok (.iconst 0, 1) ∧ decode cX8_job 66 = .ok (.iaload, 1) ∧ decode cX8_job 67 = .ok (.bipush 10, 2) ∧ decode cX8_job 69 = .ok (.if_icmp .ne 6, 3) ∧ decode cX8_job 72 = .ok (.bipush (-3), 2) ∧ decode cX8_job 74 = .ok (.ireturn, 1) ∧ decode cX8_job 75 = .ok (.aload_n 0, 1) ∧ decode cX8_job 76 = .ok (.invokevirtual 40, 3) ∧ decode cX8_job 79 = .ok (.aload_n 0, 1) ∧ decode cX8_job 80 = .ok (.iload_n 1, 1) ∧ decode cX8_job 81 = .ok (.iload_n 2, 1) ∧ decode cX8_job 82 = .ok (.iload_n 3, 1) ∧ decode cX8_job 83 = .ok (.iload 4, 2) ∧ decode cX8_job 85 = .ok (.iload 5, 2) ∧ decode cX8_job 87 = .ok (.invokevirtual 80, 3) ∧ decode cX8_job 90 = .ok (.ireturn, 1) ∧ True := dq_of (l := (0, .iload_n 1, 1) :: (1, .invokestatic 70, 3) :: (4, .ifCond .eq 30, 3) :: (7, .iload_n 2, 1) :: (8, .invokestatic 73, 3) :: (11, .ifCond .eq 23, 3) :: (14, .iload_n 3, 1) :: (15, .iload 4, 2) :: (17, .invokestatic 43, 3) :: (20, .ifCond .eq 14, 3) :: (23, .iload 5, 2) :: (25, .iconst 0, 1) :: (26, .bipush 11, 2) :: (28, .invokestatic 32, 3) :: (31, .ifCond .ne 5, 3) :: (34, .iconst (-1), 1) :: (35, .ireturn, 1) :: (36, .aload_n 0, 1) :: (37, .iload_n 1, 1) :: (38, .iload 4, 2) :: (40, .iload 5, 2) :: (42, .invokevirtual 76, 3) :: (45, .istore 6, 2) :: (47, .iload 6, 2) :: (49, .ifCond .le 12, 3) :: (52, .aload_n 0, 1) :: (53, .iload 6, 2) :: (55, .putfield 19, 3) :: (58, .bipush (-2), 2) :: (60, .ireturn, 1) :: (61, .aload_n 0, 1) :: (62, .getfield 7, 3) :: (65, .iconst 0, 1) :: (66, .iaload, 1) :: (67, .bipush 10, 2) :: (69, .if_icmp .ne 6, 3) :: (72, .bipush (-3), 2) :: (74, .ireturn, 1) :: (75, .aload_n 0, 1) :: (76, .invokevirtual 40, 3) :: (79, .aload_n 0, 1) :: (80, .iload_n 1, 1) :: (81, .iload_n 2, 1) :: (82, .iload_n 3, 1) :: (83, .iload 4, 2) :: (85, .iload 5, 2) :: (87, .invokevirtual 80, 3) :: (90, .ireturn, 1) :: []) (by decide +kernel)
set_option maxRecDepth 100000 in
theorem D_X8_refusal : decode cX8_refusal 0 = .ok (.aload_n 0, 1) ∧ decode cX8_refusal 1 = .ok (.getfield 19, 3) ∧ decode cX8_refusal 4 = .ok (.ireturn, 1) ∧ True := dq_of (l := (0, .aload_n 0, 1) :: (1, .getfield 19, 3) :: (4, .ireturn, 1) :: []) (by decide +kernel)
set_option maxRecDepth 100000 in
theorem D_X8_goesJob : decode cX8_goesJob 0 = .ok (.aload_n 0, 1) ∧ decode cX8_goesJob 1 = .ok (.getfield 7, 3) ∧ decode cX8_goesJob 4 = .ok (.iconst 0, 1) ∧ decode cX8_goesJob 5 = .ok (.dup2, 1) ∧ decode cX8_goesJob 6 = .ok (.iaload, 1) ∧ decode cX8_goesJob 7 = .ok (.iconst 1, 1) ∧ decode cX8_goesJob 8 = .ok (.isub, 1) ∧ decode cX8_goesJob 9 = .ok (.iastore, 1) ∧ decode cX8_goesJob 10 = .ok (.iload_n 1, 1) ∧ decode cX8_goesJob 11 = .ok (.invokestatic 60, 3) ∧ decode cX8_goesJob 14 = .ok (.istore_n 2, 1) ∧ decode cX8_goesJob 15 = .ok (.iload_n 2, 1) ∧ decode cX8_goesJob 16 = .ok (.aload_n 0, 1) ∧ decode cX8_goesJob 17 = .ok (.getfield 7, 3) ∧ decode cX8_goesJob 20 = .ok (.iconst 0, 1) ∧ decode cX8_goesJob 21 = .ok (.iaload, 1) ∧ decode cX8_goesJob 22 = .ok (.invokestatic 60, 3) ∧ decode cX8_goesJob 25 = .ok (.if_icmp .ge 24, 3) ∧ decode cX8_goesJob 28 = .ok (.aload_n 0, 1) ∧ decode cX8_goesJob 29 = .ok (.getfield 7, 3) ∧ decode cX8_goesJob 32 = .ok (.iload_n 2, 1) ∧ decode cX8_goesJob 33 = .ok (.aload_n 0, 1) ∧ decode cX8_goesJob 34 = .ok (.getfield 7, 3) ∧ decode cX8_goesJob 37 = .ok (.iload_n 2, 1) ∧ decode cX8_goesJob 38 = .ok (.bipush 10, 2) ∧ decode cX8_goesJob 40 = .ok (.iadd, 1) ∧ decode cX8_goesJob 41 = .ok (.iaload, 1) ∧ decode cX8_goesJob 42 = .ok (.iastore, 1) ∧ decode cX8_goesJob 43 = .ok (.iinc 2 1, 3) ∧ decode cX8_goesJob 46 = .ok (.goto (-31), 3) ∧ decode cX8_goesJob 49 = .ok (.return_, 1) ∧ True := dq_of (l := (0, .aload_n 0, 1) :: (1, .getfield 7, 3) :: (4, .iconst 0, 1) :: (5, .dup2, 1) :: (6, .iaload, 1) :: (7, .iconst 1, 1) :: (8, .isub, 1) :: (9, .iastore, 1) :: (10, .iload_n 1, 1) :: (11, .invokestatic 60, 3) :: (14, .istore_n 2, 1) :: (15, .iload_n 2, 1) :: (16, .aload_n 0, 1) :: (17, .getfield 7, 3) :: (20, .iconst 0, 1) :: (21, .iaload, 1) :: (22, .invokestatic 60, 3) :: (25, .if_icmp .ge 24, 3) :: (28, .aload_n 0, 1) :: (29, .getfield 7, 3) :: (32, .iload_n 2, 1) :: (33, .aload_n 0, 1) :: (34, .getfield 7, 3) :: (37, .iload_n 2, 1) :: (38, .bipush 10, 2) :: (40, .iadd, 1) :: (41, .iaload, 1) :: (42, .iastore, 1) :: (43, .iinc 2 1, 3) :: (46, .goto (-31), 3) :: (49, .return_, 1) :: []) (by decide +kernel)
set_option maxRecDepth 100000 in
theorem D_X8_givesUp : decode cX8_givesUp 0 = .ok (.aload_n 0, 1) ∧ decode cX8_givesUp 1 = .ok (.getfield 7, 3) ∧ decode cX8_givesUp 4 = .ok (.bipush 6, 2) ∧ decode cX8_givesUp 6 = .ok (.iaload, 1) ∧ decode cX8_givesUp 7 = .ok (.iload_n 1, 1) ∧ decode cX8_givesUp 8 = .ok (.if_icmp .ne 32, 3) ∧ decode cX8_givesUp 11 = .ok (.aload_n 0, 1) ∧ decode cX8_givesUp 12 = .ok (.getfield 7, 3) ∧ decode cX8_givesUp 15 = .ok (.bipush 18, 2) ∧ decode cX8_givesUp 17 = .ok (.dup2, 1) ∧ decode cX8_givesUp 18 = .ok (.iaload, 1) ∧ decode cX8_givesUp 19 = .ok (.aload_n 0, 1) ∧ decode cX8_givesUp 20 = .ok (.getfield 7, 3) ∧ decode cX8_givesUp 23 = .ok (.iconst 5, 1) ∧ decode cX8_givesUp 24 = .ok (.iaload, 1) ∧ decode cX8_givesUp 25 = .ok (.iconst 1, 1) ∧ decode cX8_givesUp 26 = .ok (.if_icmp .ne 7, 3) ∧ decode cX8_givesUp 29 = .ok (.iconst 1, 1) ∧ decode cX8_givesUp 30 = .ok (.goto 4, 3) ∧ decode cX8_givesUp 33 = .ok (.iconst 0, 1) ∧ decode cX8_givesUp 34 = .ok (.iadd, 1) ∧ decode cX8_givesUp 35 = .ok (.iastore, 1) ∧ decode cX8_givesUp 36 = .ok (.aload_n 0, 1) ∧ decode cX8_givesUp 37 = .ok (.invokevirtual 84, 3) ∧ decode cX8_givesUp 40 = .ok (.aload_n 0, 1) ∧ decode cX8_givesUp 41 = .ok (.getfield 7, 3) ∧ decode cX8_givesUp 44 = .ok (.bipush 7, 2) ∧ decode cX8_givesUp 46 = .ok (.aload_n 0, 1) ∧ decode cX8_givesUp 47 = .ok (.getfield 7, 3) ∧ decode cX8_givesUp 50 = .ok (.bipush 7, 2) ∧ decode cX8_givesUp 52 = .ok (.iaload, 1) ∧ decode cX8_givesUp 53 = .ok (.iload_n 1, 1) ∧ decode cX8_givesUp 54 = .ok (.if_icmp .ne 8, 3) ∧ decode cX8_givesUp 57 = .ok (.bipush (-4), 2) ∧ decode cX8_givesUp 59 = .ok (.goto 10, 3) ∧ decode cX8_givesUp 62 = .ok (.aload_n 0, 1) ∧ decode cX8_givesUp 63 = .ok (.getfield 7, 3) ∧ decode cX8_givesUp 66 = .ok (.bipush 7, 2) ∧ decode cX8_givesUp 68 = .ok (.iaload, 1) ∧ decode cX8_givesUp 69 = .ok (.iastore, 1) ∧ decode cX8_givesUp 70 = .ok (.return_, 1) ∧ True := dq_of (l := (0, .aload_n 0, 1) :: (1, .getfield 7, 3) :: (4, .bipush 6, 2) :: (6, .iaload, 1) :: (7, .iload_n 1, 1) :: (8, .if_icmp .ne 32, 3) :: (11, .aload_n 0, 1) :: (12, .getfield 7, 3) :: (15, .bipush 18, 2) :: (17, .dup2, 1) :: (18, .iaload, 1) :: (19, .aload_n 0, 1) :: (20, .getfield 7, 3) :: (23, .iconst 5, 1) :: (24, .iaload, 1) :: (25, .iconst 1, 1) :: (26, .if_icmp .ne 7, 3) :: (29, .iconst 1, 1) :: (30, .goto 4, 3) :: (33, .iconst 0, 1) :: (34, .iadd, 1) :: (35, .iastore, 1) :: (36, .aload_n 0, 1) :: (37, .invokevirtual 84, 3) :: (40, .aload_n 0, 1) :: (41, .getfield 7, 3) :: (44, .bipush 7, 2) :: (46, .aload_n 0, 1) :: (47, .getfield 7, 3) :: (50, .bipush 7, 2) :: (52, .iaload, 1) :: (53, .iload_n 1, 1) :: (54, .if_icmp .ne 8, 3) :: (57, .bipush (-4), 2) :: (59, .goto 10, 3) :: (62, .aload_n 0, 1) :: (63, .getfield 7, 3) :: (66, .bipush 7, 2) :: (68, .iaload, 1) :: (69, .iastore, 1) :: (70, .return_, 1) :: []) (by decide +kernel)
set_option maxRecDepth 100000 in
theorem D_X8_endsWork : decode cX8_endsWork 0 = .ok (.aload_n 0, 1) ∧ decode cX8_endsWork 1 = .ok (.getfield 7, 3) ∧ decode cX8_endsWork 4 = .ok (.iconst 4, 1) ∧ decode cX8_endsWork 5 = .ok (.iconst 0, 1) ∧ decode cX8_endsWork 6 = .ok (.iastore, 1) ∧ decode cX8_endsWork 7 = .ok (.aload_n 0, 1) ∧ decode cX8_endsWork 8 = .ok (.getfield 7, 3) ∧ decode cX8_endsWork 11 = .ok (.iconst 5, 1) ∧ decode cX8_endsWork 12 = .ok (.iconst 0, 1) ∧ decode cX8_endsWork 13 = .ok (.iastore, 1) ∧ decode cX8_endsWork 14 = .ok (.aload_n 0, 1) ∧ decode cX8_endsWork 15 = .ok (.getfield 7, 3) ∧ decode cX8_endsWork 18 = .ok (.bipush 6, 2) ∧ decode cX8_endsWork 20 = .ok (.bipush (-4), 2) ∧ decode cX8_endsWork 22 = .ok (.iastore, 1) ∧ decode cX8_endsWork 23 = .ok (.return_, 1) ∧ True := dq_of (l := (0, .aload_n 0, 1) :: (1, .getfield 7, 3) :: (4, .iconst 4, 1) :: (5, .iconst 0, 1) :: (6, .iastore, 1) :: (7, .aload_n 0, 1) :: (8, .getfield 7, 3) :: (11, .iconst 5, 1) :: (12, .iconst 0, 1) :: (13, .iastore, 1) :: (14, .aload_n 0, 1) :: (15, .getfield 7, 3) :: (18, .bipush 6, 2) :: (20, .bipush (-4), 2) :: (22, .iastore, 1) :: (23, .return_, 1) :: []) (by decide +kernel)
set_option maxRecDepth 100000 in
theorem D_X8_hold : decode cX8_hold 0 = .ok (.iload_n 1, 1) ∧ decode cX8_hold 1 = .ok (.ifCond .lt 12, 3) ∧ decode cX8_hold 4 = .ok (.iload_n 2, 1) ∧ decode cX8_hold 5 = .ok (.iconst 0, 1) ∧ decode cX8_hold 6 = .ok (.iconst 1, 1) ∧ decode cX8_hold 7 = .ok (.invokestatic 32, 3) ∧ decode cX8_hold 10 = .ok (.ifCond .ne 5, 3) ∧ decode cX8_hold 13 = .ok (.iconst (-1), 1) ∧ decode cX8_hold 14 = .ok (.ireturn, 1) ∧ decode cX8_hold 15 = .ok (.aload_n 0, 1) ∧ decode cX8_hold 16 = .ok (.iload_n 1, 1) ∧ decode cX8_hold 17 = .ok (.invokevirtual 87, 3) ∧ decode cX8_hold 20 = .ok (.istore_n 3, 1) ∧ decode cX8_hold 21 = .ok (.iload_n 3, 1) ∧ decode cX8_hold 22 = .ok (.ifCond .ge 6, 3) ∧ decode cX8_hold 25 = .ok (.bipush (-4), 2) ∧ decode cX8_hold 27 = .ok (.ireturn, 1) ∧ decode cX8_hold 28 = .ok (.aload_n 0, 1) ∧ decode cX8_hold 29 = .ok (.iload_n 3, 1) ∧ decode cX8_hold 30 = .ok (.invokestatic 60, 3) ∧ decode cX8_hold 33 = .ok (.bipush 7, 2) ∧ decode cX8_hold 35 = .ok (.iadd, 1) ∧ decode cX8_hold 36 = .ok (.iload_n 2, 1) ∧ decode cX8_hold 37 = .ok (.invokevirtual 54, 3) ∧ decode cX8_hold 40 = .ok (.istore 4, 2) ∧ decode cX8_hold 42 = .ok (.iload_n 2, 1) ∧ decode cX8_hold 43 = .ok (.iconst 1, 1) ∧ decode cX8_hold 44 = .ok (.if_icmp .ne 8, 3) ∧ decode cX8_hold 47 = .ok (.aload_n 0, 1) ∧ decode cX8_hold 48 = .ok (.iload_n 1, 1) ∧ decode cX8_hold 49 = .ok (.invokevirtual 90, 3) ∧ decode cX8_hold 52 = .ok (.iload 4, 2) ∧ decode cX8_hold 54 = .ok (.ireturn, 1) ∧ True := dq_of (l := (0, .iload_n 1, 1) :: (1, .ifCond .lt 12, 3) :: (4, .iload_n 2, 1) :: (5, .iconst 0, 1) :: (6, .iconst 1, 1) :: (7, .invokestatic 32, 3) :: (10, .ifCond .ne 5, 3) :: (13, .iconst (-1), 1) :: (14, .ireturn, 1) :: (15, .aload_n 0, 1) :: (16, .iload_n 1, 1) :: (17, .invokevirtual 87, 3) :: (20, .istore_n 3, 1) :: (21, .iload_n 3, 1) :: (22, .ifCond .ge 6, 3) :: (25, .bipush (-4), 2) :: (27, .ireturn, 1) :: (28, .aload_n 0, 1) :: (29, .iload_n 3, 1) :: (30, .invokestatic 60, 3) :: (33, .bipush 7, 2) :: (35, .iadd, 1) :: (36, .iload_n 2, 1) :: (37, .invokevirtual 54, 3) :: (40, .istore 4, 2) :: (42, .iload_n 2, 1) :: (43, .iconst 1, 1) :: (44, .if_icmp .ne 8, 3) :: (47, .aload_n 0, 1) :: (48, .iload_n 1, 1) :: (49, .invokevirtual 90, 3) :: (52, .iload 4, 2) :: (54, .ireturn, 1) :: []) (by decide +kernel)
set_option maxRecDepth 100000 in
theorem D_X8_cancel : decode cX8_cancel 0 = .ok (.iload_n 1, 1) ∧ decode cX8_cancel 1 = .ok (.ifCond .ge 5, 3) ∧ decode cX8_cancel 4 = .ok (.iconst (-1), 1) ∧ decode cX8_cancel 5 = .ok (.ireturn, 1) ∧ decode cX8_cancel 6 = .ok (.aload_n 0, 1) ∧ decode cX8_cancel 7 = .ok (.iload_n 1, 1) ∧ decode cX8_cancel 8 = .ok (.invokevirtual 87, 3) ∧ decode cX8_cancel 11 = .ok (.istore_n 2, 1) ∧ decode cX8_cancel 12 = .ok (.iload_n 2, 1) ∧ decode cX8_cancel 13 = .ok (.ifCond .ge 6, 3) ∧ decode cX8_cancel 16 = .ok (.bipush (-4), 2) ∧ decode cX8_cancel 18 = .ok (.ireturn, 1) ∧ decode cX8_cancel 19 = .ok (.aload_n 0, 1) ∧ decode cX8_cancel 20 = .ok (.invokevirtual 40, 3) ∧ decode cX8_cancel 23 = .ok (.aload_n 0, 1) ∧ decode cX8_cancel 24 = .ok (.iload_n 2, 1) ∧ decode cX8_cancel 25 = .ok (.bipush 8, 2) ∧ decode cX8_cancel 27 = .ok (.invokevirtual 64, 3) ∧ decode cX8_cancel 30 = .ok (.istore_n 3, 1) ∧ decode cX8_cancel 31 = .ok (.aload_n 0, 1) ∧ decode cX8_cancel 32 = .ok (.iload_n 1, 1) ∧ decode cX8_cancel 33 = .ok (.invokevirtual 90, 3) ∧ decode cX8_cancel 36 = .ok (.aload_n 0, 1) ∧ decode cX8_cancel 37 = .ok (.iload_n 2, 1) ∧ decode cX8_cancel 38 = .ok (.invokevirtual 94, 3) ∧ decode cX8_cancel 41 = .ok (.aload_n 0, 1) ∧ decode cX8_cancel 42 = .ok (.getfield 7, 3) ∧ decode cX8_cancel 45 = .ok (.bipush 22, 2) ∧ decode cX8_cancel 47 = .ok (.dup2, 1) ∧ decode cX8_cancel 48 = .ok (.iaload, 1) ∧ decode cX8_cancel 49 = .ok (.iconst 1, 1) ∧ decode cX8_cancel 50 = .ok (.iadd, 1) ∧ decode cX8_cancel 51 = .ok (.iastore, 1) ∧ decode cX8_cancel 52 = .ok (.iload_n 3, 1) ∧ decode cX8_cancel 53 = .ok (.ireturn, 1) ∧ True := dq_of (l := (0, .iload_n 1, 1) :: (1, .ifCond .ge 5, 3) :: (4, .iconst (-1), 1) :: (5, .ireturn, 1) :: (6, .aload_n 0, 1) :: (7, .iload_n 1, 1) :: (8, .invokevirtual 87, 3) :: (11, .istore_n 2, 1) :: (12, .iload_n 2, 1) :: (13, .ifCond .ge 6, 3) :: (16, .bipush (-4), 2) :: (18, .ireturn, 1) :: (19, .aload_n 0, 1) :: (20, .invokevirtual 40, 3) :: (23, .aload_n 0, 1) :: (24, .iload_n 2, 1) :: (25, .bipush 8, 2) :: (27, .invokevirtual 64, 3) :: (30, .istore_n 3, 1) :: (31, .aload_n 0, 1) :: (32, .iload_n 1, 1) :: (33, .invokevirtual 90, 3) :: (36, .aload_n 0, 1) :: (37, .iload_n 2, 1) :: (38, .invokevirtual 94, 3) :: (41, .aload_n 0, 1) :: (42, .getfield 7, 3) :: (45, .bipush 22, 2) :: (47, .dup2, 1) :: (48, .iaload, 1) :: (49, .iconst 1, 1) :: (50, .iadd, 1) :: (51, .iastore, 1) :: (52, .iload_n 3, 1) :: (53, .ireturn, 1) :: []) (by decide +kernel)
set_option maxRecDepth 100000 in
theorem D_X8_priority : decode cX8_priority 0 = .ok (.iload_n 1, 1) ∧ decode cX8_priority 1 = .ok (.ifCond .lt 13, 3) ∧ decode cX8_priority 4 = .ok (.iload_n 2, 1) ∧ decode cX8_priority 5 = .ok (.iconst 0, 1) ∧ decode cX8_priority 6 = .ok (.bipush 9, 2) ∧ decode cX8_priority 8 = .ok (.invokestatic 32, 3) ∧ decode cX8_priority 11 = .ok (.ifCond .ne 5, 3) ∧ decode cX8_priority 14 = .ok (.iconst (-1), 1) ∧ decode cX8_priority 15 = .ok (.ireturn, 1) ∧ decode cX8_priority 16 = .ok (.aload_n 0, 1) ∧ decode cX8_priority 17 = .ok (.iload_n 1, 1) ∧ decode cX8_priority 18 = .ok (.invokevirtual 87, 3) ∧ decode cX8_priority 21 = .ok (.istore_n 3, 1) ∧ decode cX8_priority 22 = .ok (.iload_n 3, 1) ∧ decode cX8_priority 23 = .ok (.ifCond .ge 8, 3) ∧ decode cX8_priority 26 = .ok (.bipush (-4), 2) ∧ decode cX8_priority 28 = .ok (.goto 15, 3) ∧ decode cX8_priority 31 = .ok (.aload_n 0, 1) ∧ decode cX8_priority 32 = .ok (.iload_n 3, 1) ∧ decode cX8_priority 33 = .ok (.invokestatic 60, 3) ∧ decode cX8_priority 36 = .ok (.bipush 6, 2) ∧ decode cX8_priority 38 = .ok (.iadd, 1) ∧ decode cX8_priority 39 = .ok (.iload_n 2, 1) ∧ decode cX8_priority 40 = .ok (.invokevirtual 54, 3) ∧ decode cX8_priority 43 = .ok (.ireturn, 1) ∧ True := dq_of (l := (0, .iload_n 1, 1) :: (1, .ifCond .lt 13, 3) :: (4, .iload_n 2, 1) :: (5, .iconst 0, 1) :: (6, .bipush 9, 2) :: (8, .invokestatic 32, 3) :: (11, .ifCond .ne 5, 3) :: (14, .iconst (-1), 1) :: (15, .ireturn, 1) :: (16, .aload_n 0, 1) :: (17, .iload_n 1, 1) :: (18, .invokevirtual 87, 3) :: (21, .istore_n 3, 1) :: (22, .iload_n 3, 1) :: (23, .ifCond .ge 8, 3) :: (26, .bipush (-4), 2) :: (28, .goto 15, 3) :: (31, .aload_n 0, 1) :: (32, .iload_n 3, 1) :: (33, .invokestatic 60, 3) :: (36, .bipush 6, 2) :: (38, .iadd, 1) :: (39, .iload_n 2, 1) :: (40, .invokevirtual 54, 3) :: (43, .ireturn, 1) :: []) (by decide +kernel)
set_option maxRecDepth 100000 in
theorem D_X8_setSheets : decode cX8_setSheets 0 = .ok (.aload_n 0, 1) ∧ decode cX8_setSheets 1 = .ok (.iload_n 1, 1) ∧ decode cX8_setSheets 2 = .ok (.iconst 1, 1) ∧ decode cX8_setSheets 3 = .ok (.invokevirtual 64, 3) ∧ decode cX8_setSheets 6 = .ok (.aload_n 0, 1) ∧ decode cX8_setSheets 7 = .ok (.iload_n 1, 1) ∧ decode cX8_setSheets 8 = .ok (.iconst 5, 1) ∧ decode cX8_setSheets 9 = .ok (.invokevirtual 64, 3) ∧ decode cX8_setSheets 12 = .ok (.invokestatic 67, 3) ∧ decode cX8_setSheets 15 = .ok (.ireturn, 1) ∧ True := dq_of (l := (0, .aload_n 0, 1) :: (1, .iload_n 1, 1) :: (2, .iconst 1, 1) :: (3, .invokevirtual 64, 3) :: (6, .aload_n 0, 1) :: (7, .iload_n 1, 1) :: (8, .iconst 5, 1) :: (9, .invokevirtual 64, 3) :: (12, .invokestatic 67, 3) :: (15, .ireturn, 1) :: []) (by decide +kernel)
set_option maxRecDepth 100000 in
theorem D_X8_allSheets : decode cX8_allSheets 0 = .ok (.aload_n 0, 1) ∧ decode cX8_allSheets 1 = .ok (.iload_n 1, 1) ∧ decode cX8_allSheets 2 = .ok (.invokevirtual 97, 3) ∧ decode cX8_allSheets 5 = .ok (.aload_n 0, 1) ∧ decode cX8_allSheets 6 = .ok (.iload_n 1, 1) ∧ decode cX8_allSheets 7 = .ok (.iconst 2, 1) ∧ decode cX8_allSheets 8 = .ok (.invokevirtual 64, 3) ∧ decode cX8_allSheets 11 = .ok (.imul, 1) ∧ decode cX8_allSheets 12 = .ok (.ireturn, 1) ∧ True := dq_of (l := (0, .aload_n 0, 1) :: (1, .iload_n 1, 1) :: (2, .invokevirtual 97, 3) :: (5, .aload_n 0, 1) :: (6, .iload_n 1, 1) :: (7, .iconst 2, 1) :: (8, .invokevirtual 64, 3) :: (11, .imul, 1) :: (12, .ireturn, 1) :: []) (by decide +kernel)
set_option maxRecDepth 100000 in
theorem D_X8_isGathered : decode cX8_isGathered 0 = .ok (.aload_n 0, 1) ∧ decode cX8_isGathered 1 = .ok (.iload_n 1, 1) ∧ decode cX8_isGathered 2 = .ok (.iconst 5, 1) ∧ decode cX8_isGathered 3 = .ok (.invokevirtual 64, 3) ∧ decode cX8_isGathered 6 = .ok (.iconst 2, 1) ∧ decode cX8_isGathered 7 = .ok (.iand, 1) ∧ decode cX8_isGathered 8 = .ok (.iconst 2, 1) ∧ decode cX8_isGathered 9 = .ok (.if_icmp .ne 7, 3) ∧ decode cX8_isGathered 12 = .ok (.iconst 1, 1) ∧ decode cX8_isGathered 13 = .ok (.goto 4, 3) ∧ decode cX8_isGathered 16 = .ok (.iconst 0, 1) ∧ decode cX8_isGathered 17 = .ok (.ireturn, 1) ∧ True := dq_of (l := (0, .aload_n 0, 1) :: (1, .iload_n 1, 1) :: (2, .iconst 5, 1) :: (3, .invokevirtual 64, 3) :: (6, .iconst 2, 1) :: (7, .iand, 1) :: (8, .iconst 2, 1) :: (9, .if_icmp .ne 7, 3) :: (12, .iconst 1, 1) :: (13, .goto 4, 3) :: (16, .iconst 0, 1) :: (17, .ireturn, 1) :: []) (by decide +kernel)
set_option maxRecDepth 100000 in
theorem D_X8_nextSheet : decode cX8_nextSheet 0 = .ok (.aload_n 0, 1) ∧ decode cX8_nextSheet 1 = .ok (.iload_n 1, 1) ∧ decode cX8_nextSheet 2 = .ok (.invokevirtual 100, 3) ∧ decode cX8_nextSheet 5 = .ok (.ifCond .eq 19, 3) ∧ decode cX8_nextSheet 8 = .ok (.aload_n 0, 1) ∧ decode cX8_nextSheet 9 = .ok (.iload_n 1, 1) ∧ decode cX8_nextSheet 10 = .ok (.bipush 8, 2) ∧ decode cX8_nextSheet 12 = .ok (.invokevirtual 64, 3) ∧ decode cX8_nextSheet 15 = .ok (.aload_n 0, 1) ∧ decode cX8_nextSheet 16 = .ok (.iload_n 1, 1) ∧ decode cX8_nextSheet 17 = .ok (.invokevirtual 97, 3) ∧ decode cX8_nextSheet 20 = .ok (.irem, 1) ∧ decode cX8_nextSheet 21 = .ok (.goto 17, 3) ∧ decode cX8_nextSheet 24 = .ok (.aload_n 0, 1) ∧ decode cX8_nextSheet 25 = .ok (.iload_n 1, 1) ∧ decode cX8_nextSheet 26 = .ok (.bipush 8, 2) ∧ decode cX8_nextSheet 28 = .ok (.invokevirtual 64, 3) ∧ decode cX8_nextSheet 31 = .ok (.aload_n 0, 1) ∧ decode cX8_nextSheet 32 = .ok (.iload_n 1, 1) ∧ decode cX8_nextSheet 33 = .ok (.iconst 2, 1) ∧ decode cX8_nextSheet 34 = .ok (.invokevirtual 64, 3) ∧ decode cX8_nextSheet 37 = .ok (.idiv, 1) ∧ decode cX8_nextSheet 38 = .ok (.ireturn, 1) ∧ True := dq_of (l := (0, .aload_n 0, 1) :: (1, .iload_n 1, 1) :: (2, .invokevirtual 100, 3) :: (5, .ifCond .eq 19, 3) :: (8, .aload_n 0, 1) :: (9, .iload_n 1, 1) :: (10, .bipush 8, 2) :: (12, .invokevirtual 64, 3) :: (15, .aload_n 0, 1) :: (16, .iload_n 1, 1) :: (17, .invokevirtual 97, 3) :: (20, .irem, 1) :: (21, .goto 17, 3) :: (24, .aload_n 0, 1) :: (25, .iload_n 1, 1) :: (26, .bipush 8, 2) :: (28, .invokevirtual 64, 3) :: (31, .aload_n 0, 1) :: (32, .iload_n 1, 1) :: (33, .iconst 2, 1) :: (34, .invokevirtual 64, 3) :: (37, .idiv, 1) :: (38, .ireturn, 1) :: []) (by decide +kernel)
set_option maxRecDepth 100000 in
theorem D_X8_nextCopy : decode cX8_nextCopy 0 = .ok (.aload_n 0, 1) ∧ decode cX8_nextCopy 1 = .ok (.iload_n 1, 1) ∧ decode cX8_nextCopy 2 = .ok (.invokevirtual 100, 3) ∧ decode cX8_nextCopy 5 = .ok (.ifCond .eq 19, 3) ∧ decode cX8_nextCopy 8 = .ok (.aload_n 0, 1) ∧ decode cX8_nextCopy 9 = .ok (.iload_n 1, 1) ∧ decode cX8_nextCopy 10 = .ok (.bipush 8, 2) ∧ decode cX8_nextCopy 12 = .ok (.invokevirtual 64, 3) ∧ decode cX8_nextCopy 15 = .ok (.aload_n 0, 1) ∧ decode cX8_nextCopy 16 = .ok (.iload_n 1, 1) ∧ decode cX8_nextCopy 17 = .ok (.invokevirtual 97, 3) ∧ decode cX8_nextCopy 20 = .ok (.idiv, 1) ∧ decode cX8_nextCopy 21 = .ok (.goto 17, 3) ∧ decode cX8_nextCopy 24 = .ok (.aload_n 0, 1) ∧ decode cX8_nextCopy 25 = .ok (.iload_n 1, 1) ∧ decode cX8_nextCopy 26 = .ok (.bipush 8, 2) ∧ decode cX8_nextCopy 28 = .ok (.invokevirtual 64, 3) ∧ decode cX8_nextCopy 31 = .ok (.aload_n 0, 1) ∧ decode cX8_nextCopy 32 = .ok (.iload_n 1, 1) ∧ decode cX8_nextCopy 33 = .ok (.iconst 2, 1) ∧ decode cX8_nextCopy 34 = .ok (.invokevirtual 64, 3) ∧ decode cX8_nextCopy 37 = .ok (.irem, 1) ∧ decode cX8_nextCopy 38 = .ok (.ireturn, 1) ∧ True := dq_of (l := (0, .aload_n 0, 1) :: (1, .iload_n 1, 1) :: (2, .invokevirtual 100, 3) :: (5, .ifCond .eq 19, 3) :: (8, .aload_n 0, 1) :: (9, .iload_n 1, 1) :: (10, .bipush 8, 2) :: (12, .invokevirtual 64, 3) :: (15, .aload_n 0, 1) :: (16, .iload_n 1, 1) :: (17, .invokevirtual 97, 3) :: (20, .idiv, 1) :: (21, .goto 17, 3) :: (24, .aload_n 0, 1) :: (25, .iload_n 1, 1) :: (26, .bipush 8, 2) :: (28, .invokevirtual 64, 3) :: (31, .aload_n 0, 1) :: (32, .iload_n 1, 1) :: (33, .iconst 2, 1) :: (34, .invokevirtual 64, 3) :: (37, .irem, 1) :: (38, .ireturn, 1) :: []) (by decide +kernel)
set_option maxRecDepth 100000 in
theorem D_X8_tellJob : decode cX8_tellJob 0 = .ok (.aload_n 0, 1) ∧ decode cX8_tellJob 1 = .ok (.iload_n 1, 1) ∧ decode cX8_tellJob 2 = .ok (.bipush 8, 2) ∧ decode cX8_tellJob 4 = .ok (.invokevirtual 64, 3) ∧ decode cX8_tellJob 7 = .ok (.aload_n 0, 1) ∧ decode cX8_tellJob 8 = .ok (.iload_n 1, 1) ∧ decode cX8_tellJob 9 = .ok (.invokevirtual 103, 3) ∧ decode cX8_tellJob 12 = .ok (.if_icmp .ne 7, 3) ∧ decode cX8_tellJob 15 = .ok (.iconst 1, 1) ∧ decode cX8_tellJob 16 = .ok (.goto 4, 3) ∧ decode cX8_tellJob 19 = .ok (.iconst 0, 1) ∧ decode cX8_tellJob 20 = .ok (.istore_n 3, 1) ∧ decode cX8_tellJob 21 = .ok (.iload_n 2, 1) ∧ decode cX8_tellJob 22 = .ok (.tableswitch 96 7 12 #[38, 44, 50, 58, 66, 81], 38) ∧ decode cX8_tellJob 60 = .ok (.aload_n 0, 1) ∧ decode cX8_tellJob 61 = .ok (.iload_n 1, 1) ∧ decode cX8_tellJob 62 = .ok (.invokevirtual 97, 3) ∧ decode cX8_tellJob 65 = .ok (.ireturn, 1) ∧ decode cX8_tellJob 66 = .ok (.aload_n 0, 1) ∧ decode cX8_tellJob 67 = .ok (.iload_n 1, 1) ∧ decode cX8_tellJob 68 = .ok (.invokevirtual 103, 3) ∧ decode cX8_tellJob 71 = .ok (.ireturn, 1) ∧ decode cX8_tellJob 72 = .ok (.aload_n 0, 1) ∧ decode cX8_tellJob 73 = .ok (.iload_n 1, 1) ∧ decode cX8_tellJob 74 = .ok (.bipush 8, 2) ∧ decode cX8_tellJob 76 = .ok (.invokevirtual 64, 3) ∧ decode cX8_tellJob 79 = .ok (.ireturn, 1) ∧ decode cX8_tellJob 80 = .ok (.aload_n 0, 1) ∧ decode cX8_tellJob 81 = .ok (.iload_n 1, 1) ∧ decode cX8_tellJob 82 = .ok (.bipush 9, 2) ∧ decode cX8_tellJob 84 = .ok (.invokevirtual 64, 3) ∧ decode cX8_tellJob 87 = .ok (.ireturn, 1) ∧ decode cX8_tellJob 88 = .ok (.iload_n 3, 1) ∧ decode cX8_tellJob 89 = .ok (.ifCond .eq 8, 3) ∧ decode cX8_tellJob 92 = .ok (.bipush (-4), 2) ∧ decode cX8_tellJob 94 = .ok (.goto 8, 3) ∧ decode cX8_tellJob 97 = .ok (.aload_n 0, 1) ∧ decode cX8_tellJob 98 = .ok (.iload_n 1, 1) ∧ decode cX8_tellJob 99 = .ok (.invokevirtual 106, 3) ∧ decode cX8_tellJob 102 = .ok (.ireturn, 1) ∧ decode cX8_tellJob 103 = .ok (.iload_n 3, 1) ∧ decode cX8_tellJob 104 = .ok (.ifCond .eq 8, 3) ∧ decode cX8_tellJob 107 = .ok (.bipush (-4), 2) ∧ decode cX8_tellJob 109 = .ok (.goto 8, 3) ∧ decode cX8_tellJob 112 = .ok (.aload_n 0, 1) ∧ decode cX8_tellJob 113 = .ok (.iload_n 1, 1) ∧ decode cX8_tellJob 114 = .ok (.invokevirtual 109, 3) ∧ decode cX8_tellJob 117 = .ok (.ireturn, 1) ∧ decode cX8_tellJob 118 = .ok (.aload_n 0, 1) ∧ decode cX8_tellJob 119 = .ok (.iload_n 1, 1) ∧ decode cX8_tellJob 120 = .ok (.iconst 1, 1) ∧ decode cX8_tellJob 121 = .ok (.iload_n 2, 1) ∧ decode cX8_tellJob 122 = .ok (.iadd, 1) ∧ decode cX8_tellJob 123 = .ok (.invokevirtual 64, 3) ∧ decode cX8_tellJob 126 = .ok (.ireturn, 1) ∧ True := dq_of (l := (0, .aload_n 0, 1) :: (1, .iload_n 1, 1) :: (2, .bipush 8, 2) :: (4, .invokevirtual 64, 3) :: (7, .aload_n 0, 1) :: (8, .iload_n 1, 1) :: (9, .invokevirtual 103, 3) :: (12, .if_icmp .ne 7, 3) :: (15, .iconst 1, 1) :: (16, .goto 4, 3) :: (19, .iconst 0, 1) :: (20, .istore_n 3, 1) :: (21, .iload_n 2, 1) :: (22, .tableswitch 96 7 12 #[38, 44, 50, 58, 66, 81], 38) :: (60, .aload_n 0, 1) :: (61, .iload_n 1, 1) :: (62, .invokevirtual 97, 3) :: (65, .ireturn, 1) :: (66, .aload_n 0, 1) :: (67, .iload_n 1, 1) :: (68, .invokevirtual 103, 3) :: (71, .ireturn, 1) :: (72, .aload_n 0, 1) :: (73, .iload_n 1, 1) :: (74, .bipush 8, 2) :: (76, .invokevirtual 64, 3) :: (79, .ireturn, 1) :: (80, .aload_n 0, 1) :: (81, .iload_n 1, 1) :: (82, .bipush 9, 2) :: (84, .invokevirtual 64, 3) :: (87, .ireturn, 1) :: (88, .iload_n 3, 1) :: (89, .ifCond .eq 8, 3) :: (92, .bipush (-4), 2) :: (94, .goto 8, 3) :: (97, .aload_n 0, 1) :: (98, .iload_n 1, 1) :: (99, .invokevirtual 106, 3) :: (102, .ireturn, 1) :: (103, .iload_n 3, 1) :: (104, .ifCond .eq 8, 3) :: (107, .bipush (-4), 2) :: (109, .goto 8, 3) :: (112, .aload_n 0, 1) :: (113, .iload_n 1, 1) :: (114, .invokevirtual 109, 3) :: (117, .ireturn, 1) :: (118, .aload_n 0, 1) :: (119, .iload_n 1, 1) :: (120, .iconst 1, 1) :: (121, .iload_n 2, 1) :: (122, .iadd, 1) :: (123, .invokevirtual 64, 3) :: (126, .ireturn, 1) :: []) (by decide +kernel)
set_option maxRecDepth 100000 in
theorem D_X8_jobInfo : decode cX8_jobInfo 0 = .ok (.iload_n 1, 1) ∧ decode cX8_jobInfo 1 = .ok (.ifCond .lt 13, 3) ∧ decode cX8_jobInfo 4 = .ok (.iload_n 2, 1) ∧ decode cX8_jobInfo 5 = .ok (.iconst 0, 1) ∧ decode cX8_jobInfo 6 = .ok (.bipush 12, 2) ∧ decode cX8_jobInfo 8 = .ok (.invokestatic 32, 3) ∧ decode cX8_jobInfo 11 = .ok (.ifCond .ne 5, 3) ∧ decode cX8_jobInfo 14 = .ok (.iconst (-1), 1) ∧ decode cX8_jobInfo 15 = .ok (.ireturn, 1) ∧ decode cX8_jobInfo 16 = .ok (.aload_n 0, 1) ∧ decode cX8_jobInfo 17 = .ok (.iload_n 1, 1) ∧ decode cX8_jobInfo 18 = .ok (.invokevirtual 87, 3) ∧ decode cX8_jobInfo 21 = .ok (.istore_n 3, 1) ∧ decode cX8_jobInfo 22 = .ok (.iload_n 3, 1) ∧ decode cX8_jobInfo 23 = .ok (.ifCond .ge 8, 3) ∧ decode cX8_jobInfo 26 = .ok (.bipush (-4), 2) ∧ decode cX8_jobInfo 28 = .ok (.goto 9, 3) ∧ decode cX8_jobInfo 31 = .ok (.aload_n 0, 1) ∧ decode cX8_jobInfo 32 = .ok (.iload_n 3, 1) ∧ decode cX8_jobInfo 33 = .ok (.iload_n 2, 1) ∧ decode cX8_jobInfo 34 = .ok (.invokevirtual 112, 3) ∧ decode cX8_jobInfo 37 = .ok (.ireturn, 1) ∧ True := dq_of (l := (0, .iload_n 1, 1) :: (1, .ifCond .lt 13, 3) :: (4, .iload_n 2, 1) :: (5, .iconst 0, 1) :: (6, .bipush 12, 2) :: (8, .invokestatic 32, 3) :: (11, .ifCond .ne 5, 3) :: (14, .iconst (-1), 1) :: (15, .ireturn, 1) :: (16, .aload_n 0, 1) :: (17, .iload_n 1, 1) :: (18, .invokevirtual 87, 3) :: (21, .istore_n 3, 1) :: (22, .iload_n 3, 1) :: (23, .ifCond .ge 8, 3) :: (26, .bipush (-4), 2) :: (28, .goto 9, 3) :: (31, .aload_n 0, 1) :: (32, .iload_n 3, 1) :: (33, .iload_n 2, 1) :: (34, .invokevirtual 112, 3) :: (37, .ireturn, 1) :: []) (by decide +kernel)
set_option maxRecDepth 100000 in
theorem D_X8_isAhead : decode cX8_isAhead 0 = .ok (.aload_n 0, 1) ∧ decode cX8_isAhead 1 = .ok (.iload_n 1, 1) ∧ decode cX8_isAhead 2 = .ok (.bipush 7, 2) ∧ decode cX8_isAhead 4 = .ok (.invokevirtual 64, 3) ∧ decode cX8_isAhead 7 = .ok (.aload_n 0, 1) ∧ decode cX8_isAhead 8 = .ok (.iload_n 2, 1) ∧ decode cX8_isAhead 9 = .ok (.bipush 7, 2) ∧ decode cX8_isAhead 11 = .ok (.invokevirtual 64, 3) ∧ decode cX8_isAhead 14 = .ok (.if_icmp .eq 19, 3) ∧ decode cX8_isAhead 17 = .ok (.aload_n 0, 1) ∧ decode cX8_isAhead 18 = .ok (.iload_n 1, 1) ∧ decode cX8_isAhead 19 = .ok (.bipush 7, 2) ∧ decode cX8_isAhead 21 = .ok (.invokevirtual 64, 3) ∧ decode cX8_isAhead 24 = .ok (.ifCond .ne 7, 3) ∧ decode cX8_isAhead 27 = .ok (.iconst 1, 1) ∧ decode cX8_isAhead 28 = .ok (.goto 4, 3) ∧ decode cX8_isAhead 31 = .ok (.iconst 0, 1) ∧ decode cX8_isAhead 32 = .ok (.ireturn, 1) ∧ decode cX8_isAhead 33 = .ok (.aload_n 0, 1) ∧ decode cX8_isAhead 34 = .ok (.iload_n 1, 1) ∧ decode cX8_isAhead 35 = .ok (.iconst 0, 1) ∧ decode cX8_isAhead 36 = .ok (.invokevirtual 64, 3) ∧ decode cX8_isAhead 39 = .ok (.aload_n 0, 1) ∧ decode cX8_isAhead 40 = .ok (.getfield 7, 3) ∧ decode cX8_isAhead 43 = .ok (.bipush 7, 2) ∧ decode cX8_isAhead 45 = .ok (.iaload, 1) ∧ decode cX8_isAhead 46 = .ok (.if_icmp .eq 19, 3) ∧ decode cX8_isAhead 49 = .ok (.aload_n 0, 1) ∧ decode cX8_isAhead 50 = .ok (.iload_n 2, 1) ∧ decode cX8_isAhead 51 = .ok (.iconst 0, 1) ∧ decode cX8_isAhead 52 = .ok (.invokevirtual 64, 3) ∧ decode cX8_isAhead 55 = .ok (.aload_n 0, 1) ∧ decode cX8_isAhead 56 = .ok (.getfield 7, 3) ∧ decode cX8_isAhead 59 = .ok (.bipush 7, 2) ∧ decode cX8_isAhead 61 = .ok (.iaload, 1) ∧ decode cX8_isAhead 62 = .ok (.if_icmp .ne 25, 3) ∧ decode cX8_isAhead 65 = .ok (.aload_n 0, 1) ∧ decode cX8_isAhead 66 = .ok (.iload_n 1, 1) ∧ decode cX8_isAhead 67 = .ok (.iconst 0, 1) ∧ decode cX8_isAhead 68 = .ok (.invokevirtual 64, 3) ∧ decode cX8_isAhead 71 = .ok (.aload_n 0, 1) ∧ decode cX8_isAhead 72 = .ok (.getfield 7, 3) ∧ decode cX8_isAhead 75 = .ok (.bipush 7, 2) ∧ decode cX8_isAhead 77 = .ok (.iaload, 1) ∧ decode cX8_isAhead 78 = .ok (.if_icmp .ne 7, 3) ∧ decode cX8_isAhead 81 = .ok (.iconst 1, 1) ∧ decode cX8_isAhead 82 = .ok (.goto 4, 3) ∧ decode cX8_isAhead 85 = .ok (.iconst 0, 1) ∧ decode cX8_isAhead 86 = .ok (.ireturn, 1) ∧ decode cX8_isAhead 87 = .ok (.aload_n 0, 1) ∧ decode cX8_isAhead 88 = .ok (.iload_n 1, 1) ∧ decode cX8_isAhead 89 = .ok (.bipush 6, 2) ∧ decode cX8_isAhead 91 = .ok (.invokevirtual 64, 3) ∧ decode cX8_isAhead 94 = .ok (.aload_n 0, 1) ∧ decode cX8_isAhead 95 = .ok (.iload_n 2, 1) ∧ decode cX8_isAhead 96 = .ok (.bipush 6, 2) ∧ decode cX8_isAhead 98 = .ok (.invokevirtual 64, 3) ∧ decode cX8_isAhead 101 = .ok (.if_icmp .eq 28, 3) ∧ decode cX8_isAhead 104 = .ok (.aload_n 0, 1) ∧ decode cX8_isAhead 105 = .ok (.iload_n 1, 1) ∧ decode cX8_isAhead 106 = .ok (.bipush 6, 2) ∧ decode cX8_isAhead 108 = .ok (.invokevirtual 64, 3) ∧ decode cX8_isAhead 111 = .ok (.aload_n 0, 1) ∧ decode cX8_isAhead 112 = .ok (.iload_n 2, 1) ∧ decode cX8_isAhead 113 = .ok (.bipush 6, 2) ∧ decode cX8_isAhead 115 = .ok (.invokevirtual 64, 3) ∧ decode cX8_isAhead 118 = .ok (.if_icmp .le 7, 3) ∧ decode cX8_isAhead 121 = .ok (.iconst 1, 1) ∧ decode cX8_isAhead 122 = .ok (.goto 17, 3) ∧ decode cX8_isAhead 125 = .ok (.iconst 0, 1) ∧ decode cX8_isAhead 126 = .ok (.goto 13, 3) ∧ decode cX8_isAhead 129 = .ok (.iload_n 1, 1) ∧ decode cX8_isAhead 130 = .ok (.iload_n 2, 1) ∧ decode cX8_isAhead 131 = .ok (.if_icmp .ge 7, 3) ∧ decode cX8_isAhead 134 = .ok (.iconst 1, 1) ∧ decode cX8_isAhead 135 = .ok (.goto 4, 3) ∧ decode cX8_isAhead 138 = .ok (.iconst 0, 1) ∧ decode cX8_isAhead 139 = .ok (.ireturn, 1) ∧ True := dq_of (l := (0, .aload_n 0, 1) :: (1, .iload_n 1, 1) :: (2, .bipush 7, 2) :: (4, .invokevirtual 64, 3) :: (7, .aload_n 0, 1) :: (8, .iload_n 2, 1) :: (9, .bipush 7, 2) :: (11, .invokevirtual 64, 3) :: (14, .if_icmp .eq 19, 3) :: (17, .aload_n 0, 1) :: (18, .iload_n 1, 1) :: (19, .bipush 7, 2) :: (21, .invokevirtual 64, 3) :: (24, .ifCond .ne 7, 3) :: (27, .iconst 1, 1) :: (28, .goto 4, 3) :: (31, .iconst 0, 1) :: (32, .ireturn, 1) :: (33, .aload_n 0, 1) :: (34, .iload_n 1, 1) :: (35, .iconst 0, 1) :: (36, .invokevirtual 64, 3) :: (39, .aload_n 0, 1) :: (40, .getfield 7, 3) :: (43, .bipush 7, 2) :: (45, .iaload, 1) :: (46, .if_icmp .eq 19, 3) :: (49, .aload_n 0, 1) :: (50, .iload_n 2, 1) :: (51, .iconst 0, 1) :: (52, .invokevirtual 64, 3) :: (55, .aload_n 0, 1) :: (56, .getfield 7, 3) :: (59, .bipush 7, 2) :: (61, .iaload, 1) :: (62, .if_icmp .ne 25, 3) :: (65, .aload_n 0, 1) :: (66, .iload_n 1, 1) :: (67, .iconst 0, 1) :: (68, .invokevirtual 64, 3) :: (71, .aload_n 0, 1) :: (72, .getfield 7, 3) :: (75, .bipush 7, 2) :: (77, .iaload, 1) :: (78, .if_icmp .ne 7, 3) :: (81, .iconst 1, 1) :: (82, .goto 4, 3) :: (85, .iconst 0, 1) :: (86, .ireturn, 1) :: (87, .aload_n 0, 1) :: (88, .iload_n 1, 1) :: (89, .bipush 6, 2) :: (91, .invokevirtual 64, 3) :: (94, .aload_n 0, 1) :: (95, .iload_n 2, 1) :: (96, .bipush 6, 2) :: (98, .invokevirtual 64, 3) :: (101, .if_icmp .eq 28, 3) :: (104, .aload_n 0, 1) :: (105, .iload_n 1, 1) :: (106, .bipush 6, 2) :: (108, .invokevirtual 64, 3) :: (111, .aload_n 0, 1) :: (112, .iload_n 2, 1) :: (113, .bipush 6, 2) :: (115, .invokevirtual 64, 3) :: (118, .if_icmp .le 7, 3) :: (121, .iconst 1, 1) :: (122, .goto 17, 3) :: (125, .iconst 0, 1) :: (126, .goto 13, 3) :: (129, .iload_n 1, 1) :: (130, .iload_n 2, 1) :: (131, .if_icmp .ge 7, 3) :: (134, .iconst 1, 1) :: (135, .goto 4, 3) :: (138, .iconst 0, 1) :: (139, .ireturn, 1) :: []) (by decide +kernel)
set_option maxRecDepth 100000 in
theorem D_X8_queued : decode cX8_queued 0 = .ok (.iload_n 1, 1) ∧ decode cX8_queued 1 = .ok (.ifCond .ge 5, 3) ∧ decode cX8_queued 4 = .ok (.iconst (-1), 1) ∧ decode cX8_queued 5 = .ok (.ireturn, 1) ∧ decode cX8_queued 6 = .ok (.iconst 0, 1) ∧ decode cX8_queued 7 = .ok (.istore_n 2, 1) ∧ decode cX8_queued 8 = .ok (.iload_n 2, 1) ∧ decode cX8_queued 9 = .ok (.aload_n 0, 1) ∧ decode cX8_queued 10 = .ok (.getfield 7, 3) ∧ decode cX8_queued 13 = .ok (.iconst 0, 1) ∧ decode cX8_queued 14 = .ok (.iaload, 1) ∧ decode cX8_queued 15 = .ok (.if_icmp .ge 67, 3) ∧ decode cX8_queued 18 = .ok (.iconst 0, 1) ∧ decode cX8_queued 19 = .ok (.istore_n 3, 1) ∧ decode cX8_queued 20 = .ok (.iconst 0, 1) ∧ decode cX8_queued 21 = .ok (.istore 4, 2) ∧ decode cX8_queued 23 = .ok (.iload 4, 2) ∧ decode cX8_queued 25 = .ok (.aload_n 0, 1) ∧ decode cX8_queued 26 = .ok (.getfield 7, 3) ∧ decode cX8_queued 29 = .ok (.iconst 0, 1) ∧ decode cX8_queued 30 = .ok (.iaload, 1) ∧ decode cX8_queued 31 = .ok (.if_icmp .ge 33, 3) ∧ decode cX8_queued 34 = .ok (.iload_n 3, 1) ∧ decode cX8_queued 35 = .ok (.iload 4, 2) ∧ decode cX8_queued 37 = .ok (.iload_n 2, 1) ∧ decode cX8_queued 38 = .ok (.if_icmp .eq 17, 3) ∧ decode cX8_queued 41 = .ok (.aload_n 0, 1) ∧ decode cX8_queued 42 = .ok (.iload 4, 2) ∧ decode cX8_queued 44 = .ok (.iload_n 2, 1) ∧ decode cX8_queued 45 = .ok (.invokevirtual 115, 3) ∧ decode cX8_queued 48 = .ok (.ifCond .eq 7, 3) ∧ decode cX8_queued 51 = .ok (.iconst 1, 1) ∧ decode cX8_queued 52 = .ok (.goto 4, 3) ∧ decode cX8_queued 55 = .ok (.iconst 0, 1) ∧ decode cX8_queued 56 = .ok (.iadd, 1) ∧ decode cX8_queued 57 = .ok (.istore_n 3, 1) ∧ decode cX8_queued 58 = .ok (.iinc 4 1, 3) ∧ decode cX8_queued 61 = .ok (.goto (-38), 3) ∧ decode cX8_queued 64 = .ok (.iload_n 3, 1) ∧ decode cX8_queued 65 = .ok (.iload_n 1, 1) ∧ decode cX8_queued 66 = .ok (.if_icmp .ne 10, 3) ∧ decode cX8_queued 69 = .ok (.aload_n 0, 1) ∧ decode cX8_queued 70 = .ok (.iload_n 2, 1) ∧ decode cX8_queued 71 = .ok (.iconst 0, 1) ∧ decode cX8_queued 72 = .ok (.invokevirtual 64, 3) ∧ decode cX8_queued 75 = .ok (.ireturn, 1) ∧ decode cX8_queued 76 = .ok (.iinc 2 1, 3) ∧ decode cX8_queued 79 = .ok (.goto (-71), 3) ∧ decode cX8_queued 82 = .ok (.bipush (-4), 2) ∧ decode cX8_queued 84 = .ok (.ireturn, 1) ∧ True := dq_of (l := (0, .iload_n 1, 1) :: (1, .ifCond .ge 5, 3) :: (4, .iconst (-1), 1) :: (5, .ireturn, 1) :: (6, .iconst 0, 1) :: (7, .istore_n 2, 1) :: (8, .iload_n 2, 1) :: (9, .aload_n 0, 1) :: (10, .getfield 7, 3) :: (13, .iconst 0, 1) :: (14, .iaload, 1) :: (15, .if_icmp .ge 67, 3) :: (18, .iconst 0, 1) :: (19, .istore_n 3, 1) :: (20, .iconst 0, 1) :: (21, .istore 4, 2) :: (23, .iload 4, 2) :: (25, .aload_n 0, 1) :: (26, .getfield 7, 3) :: (29, .iconst 0, 1) :: (30, .iaload, 1) :: (31, .if_icmp .ge 33, 3) :: (34, .iload_n 3, 1) :: (35, .iload 4, 2) :: (37, .iload_n 2, 1) :: (38, .if_icmp .eq 17, 3) :: (41, .aload_n 0, 1) :: (42, .iload 4, 2) :: (44, .iload_n 2, 1) :: (45, .invokevirtual 115, 3) :: (48, .ifCond .eq 7, 3) :: (51, .iconst 1, 1) :: (52, .goto 4, 3) :: (55, .iconst 0, 1) :: (56, .iadd, 1) :: (57, .istore_n 3, 1) :: (58, .iinc 4 1, 3) :: (61, .goto (-38), 3) :: (64, .iload_n 3, 1) :: (65, .iload_n 1, 1) :: (66, .if_icmp .ne 10, 3) :: (69, .aload_n 0, 1) :: (70, .iload_n 2, 1) :: (71, .iconst 0, 1) :: (72, .invokevirtual 64, 3) :: (75, .ireturn, 1) :: (76, .iinc 2 1, 3) :: (79, .goto (-71), 3) :: (82, .bipush (-4), 2) :: (84, .ireturn, 1) :: []) (by decide +kernel)
set_option maxRecDepth 100000 in
theorem D_X8_nextJob : decode cX8_nextJob 0 = .ok (.iconst (-1), 1) ∧ decode cX8_nextJob 1 = .ok (.istore_n 1, 1) ∧ decode cX8_nextJob 2 = .ok (.iconst 0, 1) ∧ decode cX8_nextJob 3 = .ok (.istore_n 2, 1) ∧ decode cX8_nextJob 4 = .ok (.iload_n 2, 1) ∧ decode cX8_nextJob 5 = .ok (.aload_n 0, 1) ∧ decode cX8_nextJob 6 = .ok (.getfield 7, 3) ∧ decode cX8_nextJob 9 = .ok (.iconst 0, 1) ∧ decode cX8_nextJob 10 = .ok (.iaload, 1) ∧ decode cX8_nextJob 11 = .ok (.if_icmp .ge 38, 3) ∧ decode cX8_nextJob 14 = .ok (.aload_n 0, 1) ∧ decode cX8_nextJob 15 = .ok (.iload_n 2, 1) ∧ decode cX8_nextJob 16 = .ok (.bipush 7, 2) ∧ decode cX8_nextJob 18 = .ok (.invokevirtual 64, 3) ∧ decode cX8_nextJob 21 = .ok (.ifCond .ne 20, 3) ∧ decode cX8_nextJob 24 = .ok (.iload_n 1, 1) ∧ decode cX8_nextJob 25 = .ok (.ifCond .lt 12, 3) ∧ decode cX8_nextJob 28 = .ok (.aload_n 0, 1) ∧ decode cX8_nextJob 29 = .ok (.iload_n 2, 1) ∧ decode cX8_nextJob 30 = .ok (.iload_n 1, 1) ∧ decode cX8_nextJob 31 = .ok (.invokevirtual 115, 3) ∧ decode cX8_nextJob 34 = .ok (.ifCond .eq 7, 3) ∧ decode cX8_nextJob 37 = .ok (.iload_n 2, 1) ∧ decode cX8_nextJob 38 = .ok (.goto 4, 3) ∧ decode cX8_nextJob 41 = .ok (.iload_n 1, 1) ∧ decode cX8_nextJob 42 = .ok (.istore_n 1, 1) ∧ decode cX8_nextJob 43 = .ok (.iinc 2 1, 3) ∧ decode cX8_nextJob 46 = .ok (.goto (-42), 3) ∧ decode cX8_nextJob 49 = .ok (.iload_n 1, 1) ∧ decode cX8_nextJob 50 = .ok (.ireturn, 1) ∧ True := dq_of (l := (0, .iconst (-1), 1) :: (1, .istore_n 1, 1) :: (2, .iconst 0, 1) :: (3, .istore_n 2, 1) :: (4, .iload_n 2, 1) :: (5, .aload_n 0, 1) :: (6, .getfield 7, 3) :: (9, .iconst 0, 1) :: (10, .iaload, 1) :: (11, .if_icmp .ge 38, 3) :: (14, .aload_n 0, 1) :: (15, .iload_n 2, 1) :: (16, .bipush 7, 2) :: (18, .invokevirtual 64, 3) :: (21, .ifCond .ne 20, 3) :: (24, .iload_n 1, 1) :: (25, .ifCond .lt 12, 3) :: (28, .aload_n 0, 1) :: (29, .iload_n 2, 1) :: (30, .iload_n 1, 1) :: (31, .invokevirtual 115, 3) :: (34, .ifCond .eq 7, 3) :: (37, .iload_n 2, 1) :: (38, .goto 4, 3) :: (41, .iload_n 1, 1) :: (42, .istore_n 1, 1) :: (43, .iinc 2 1, 3) :: (46, .goto (-42), 3) :: (49, .iload_n 1, 1) :: (50, .ireturn, 1) :: []) (by decide +kernel)
set_option maxRecDepth 100000 in
theorem D_X8_staplesOf : decode cX8_staplesOf 0 = .ok (.aload_n 0, 1) ∧ decode cX8_staplesOf 1 = .ok (.iload_n 1, 1) ∧ decode cX8_staplesOf 2 = .ok (.iconst 5, 1) ∧ decode cX8_staplesOf 3 = .ok (.invokevirtual 64, 3) ∧ decode cX8_staplesOf 6 = .ok (.iconst 4, 1) ∧ decode cX8_staplesOf 7 = .ok (.idiv, 1) ∧ decode cX8_staplesOf 8 = .ok (.ireturn, 1) ∧ True := dq_of (l := (0, .aload_n 0, 1) :: (1, .iload_n 1, 1) :: (2, .iconst 5, 1) :: (3, .invokevirtual 64, 3) :: (6, .iconst 4, 1) :: (7, .idiv, 1) :: (8, .ireturn, 1) :: []) (by decide +kernel)
set_option maxRecDepth 100000 in
theorem D_X8_hasSet : decode cX8_hasSet 0 = .ok (.aload_n 0, 1) ∧ decode cX8_hasSet 1 = .ok (.iload_n 1, 1) ∧ decode cX8_hasSet 2 = .ok (.invokevirtual 118, 3) ∧ decode cX8_hasSet 5 = .ok (.ifCond .le 30, 3) ∧ decode cX8_hasSet 8 = .ok (.aload_n 0, 1) ∧ decode cX8_hasSet 9 = .ok (.iload_n 1, 1) ∧ decode cX8_hasSet 10 = .ok (.bipush 8, 2) ∧ decode cX8_hasSet 12 = .ok (.invokevirtual 64, 3) ∧ decode cX8_hasSet 15 = .ok (.aload_n 0, 1) ∧ decode cX8_hasSet 16 = .ok (.iload_n 1, 1) ∧ decode cX8_hasSet 17 = .ok (.invokevirtual 97, 3) ∧ decode cX8_hasSet 20 = .ok (.idiv, 1) ∧ decode cX8_hasSet 21 = .ok (.aload_n 0, 1) ∧ decode cX8_hasSet 22 = .ok (.iload_n 1, 1) ∧ decode cX8_hasSet 23 = .ok (.bipush 9, 2) ∧ decode cX8_hasSet 25 = .ok (.invokevirtual 64, 3) ∧ decode cX8_hasSet 28 = .ok (.if_icmp .le 7, 3) ∧ decode cX8_hasSet 31 = .ok (.iconst 1, 1) ∧ decode cX8_hasSet 32 = .ok (.goto 4, 3) ∧ decode cX8_hasSet 35 = .ok (.iconst 0, 1) ∧ decode cX8_hasSet 36 = .ok (.ireturn, 1) ∧ True := dq_of (l := (0, .aload_n 0, 1) :: (1, .iload_n 1, 1) :: (2, .invokevirtual 118, 3) :: (5, .ifCond .le 30, 3) :: (8, .aload_n 0, 1) :: (9, .iload_n 1, 1) :: (10, .bipush 8, 2) :: (12, .invokevirtual 64, 3) :: (15, .aload_n 0, 1) :: (16, .iload_n 1, 1) :: (17, .invokevirtual 97, 3) :: (20, .idiv, 1) :: (21, .aload_n 0, 1) :: (22, .iload_n 1, 1) :: (23, .bipush 9, 2) :: (25, .invokevirtual 64, 3) :: (28, .if_icmp .le 7, 3) :: (31, .iconst 1, 1) :: (32, .goto 4, 3) :: (35, .iconst 0, 1) :: (36, .ireturn, 1) :: []) (by decide +kernel)
set_option maxRecDepth 100000 in
theorem D_X8_whyStop : decode cX8_whyStop 0 = .ok (.iload_n 1, 1) ∧ decode cX8_whyStop 1 = .ok (.ifCond .ge 5, 3) ∧ decode cX8_whyStop 4 = .ok (.iconst 1, 1) ∧ decode cX8_whyStop 5 = .ok (.ireturn, 1) ∧ decode cX8_whyStop 6 = .ok (.aload_n 0, 1) ∧ decode cX8_whyStop 7 = .ok (.iload_n 1, 1) ∧ decode cX8_whyStop 8 = .ok (.invokevirtual 121, 3) ∧ decode cX8_whyStop 11 = .ok (.ifCond .eq 23, 3) ∧ decode cX8_whyStop 14 = .ok (.aload_n 0, 1) ∧ decode cX8_whyStop 15 = .ok (.getfield 7, 3) ∧ decode cX8_whyStop 18 = .ok (.iconst 3, 1) ∧ decode cX8_whyStop 19 = .ok (.iaload, 1) ∧ decode cX8_whyStop 20 = .ok (.aload_n 0, 1) ∧ decode cX8_whyStop 21 = .ok (.iload_n 1, 1) ∧ decode cX8_whyStop 22 = .ok (.invokevirtual 118, 3) ∧ decode cX8_whyStop 25 = .ok (.if_icmp .ge 7, 3) ∧ decode cX8_whyStop 28 = .ok (.iconst 4, 1) ∧ decode cX8_whyStop 29 = .ok (.goto 4, 3) ∧ decode cX8_whyStop 32 = .ok (.iconst 0, 1) ∧ decode cX8_whyStop 33 = .ok (.ireturn, 1) ∧ decode cX8_whyStop 34 = .ok (.aload_n 0, 1) ∧ decode cX8_whyStop 35 = .ok (.aload_n 0, 1) ∧ decode cX8_whyStop 36 = .ok (.iload_n 1, 1) ∧ decode cX8_whyStop 37 = .ok (.iconst 3, 1) ∧ decode cX8_whyStop 38 = .ok (.invokevirtual 64, 3) ∧ decode cX8_whyStop 41 = .ok (.aload_n 0, 1) ∧ decode cX8_whyStop 42 = .ok (.iload_n 1, 1) ∧ decode cX8_whyStop 43 = .ok (.iconst 4, 1) ∧ decode cX8_whyStop 44 = .ok (.invokevirtual 64, 3) ∧ decode cX8_whyStop 47 = .ok (.invokevirtual 50, 3) ∧ decode cX8_whyStop 50 = .ok (.ifCond .ne 7, 3) ∧ decode cX8_whyStop 53 = .ok (.iconst 2, 1) ∧ decode cX8_whyStop 54 = .ok (.goto 24, 3) ∧ decode cX8_whyStop 57 = .ok (.aload_n 0, 1) ∧ decode cX8_whyStop 58 = .ok (.getfield 7, 3) ∧ decode cX8_whyStop 61 = .ok (.iconst 2, 1) ∧ decode cX8_whyStop 62 = .ok (.iaload, 1) ∧ decode cX8_whyStop 63 = .ok (.aload_n 0, 1) ∧ decode cX8_whyStop 64 = .ok (.getfield 7, 3) ∧ decode cX8_whyStop 67 = .ok (.bipush 15, 2) ∧ decode cX8_whyStop 69 = .ok (.iaload, 1) ∧ decode cX8_whyStop 70 = .ok (.if_icmp .lt 7, 3) ∧ decode cX8_whyStop 73 = .ok (.iconst 3, 1) ∧ decode cX8_whyStop 74 = .ok (.goto 4, 3) ∧ decode cX8_whyStop 77 = .ok (.iconst 0, 1) ∧ decode cX8_whyStop 78 = .ok (.ireturn, 1) ∧ True := dq_of (l := (0, .iload_n 1, 1) :: (1, .ifCond .ge 5, 3) :: (4, .iconst 1, 1) :: (5, .ireturn, 1) :: (6, .aload_n 0, 1) :: (7, .iload_n 1, 1) :: (8, .invokevirtual 121, 3) :: (11, .ifCond .eq 23, 3) :: (14, .aload_n 0, 1) :: (15, .getfield 7, 3) :: (18, .iconst 3, 1) :: (19, .iaload, 1) :: (20, .aload_n 0, 1) :: (21, .iload_n 1, 1) :: (22, .invokevirtual 118, 3) :: (25, .if_icmp .ge 7, 3) :: (28, .iconst 4, 1) :: (29, .goto 4, 3) :: (32, .iconst 0, 1) :: (33, .ireturn, 1) :: (34, .aload_n 0, 1) :: (35, .aload_n 0, 1) :: (36, .iload_n 1, 1) :: (37, .iconst 3, 1) :: (38, .invokevirtual 64, 3) :: (41, .aload_n 0, 1) :: (42, .iload_n 1, 1) :: (43, .iconst 4, 1) :: (44, .invokevirtual 64, 3) :: (47, .invokevirtual 50, 3) :: (50, .ifCond .ne 7, 3) :: (53, .iconst 2, 1) :: (54, .goto 24, 3) :: (57, .aload_n 0, 1) :: (58, .getfield 7, 3) :: (61, .iconst 2, 1) :: (62, .iaload, 1) :: (63, .aload_n 0, 1) :: (64, .getfield 7, 3) :: (67, .bipush 15, 2) :: (69, .iaload, 1) :: (70, .if_icmp .lt 7, 3) :: (73, .iconst 3, 1) :: (74, .goto 4, 3) :: (77, .iconst 0, 1) :: (78, .ireturn, 1) :: []) (by decide +kernel)
set_option maxRecDepth 100000 in
theorem D_X8_leaves : decode cX8_leaves 0 = .ok (.aload_n 0, 1) ∧ decode cX8_leaves 1 = .ok (.iload_n 1, 1) ∧ decode cX8_leaves 2 = .ok (.bipush 8, 2) ∧ decode cX8_leaves 4 = .ok (.invokevirtual 64, 3) ∧ decode cX8_leaves 7 = .ok (.aload_n 0, 1) ∧ decode cX8_leaves 8 = .ok (.iload_n 1, 1) ∧ decode cX8_leaves 9 = .ok (.invokevirtual 103, 3) ∧ decode cX8_leaves 12 = .ok (.if_icmp .ne 31, 3) ∧ decode cX8_leaves 15 = .ok (.aload_n 0, 1) ∧ decode cX8_leaves 16 = .ok (.iload_n 1, 1) ∧ decode cX8_leaves 17 = .ok (.invokevirtual 118, 3) ∧ decode cX8_leaves 20 = .ok (.ifCond .eq 19, 3) ∧ decode cX8_leaves 23 = .ok (.aload_n 0, 1) ∧ decode cX8_leaves 24 = .ok (.iload_n 1, 1) ∧ decode cX8_leaves 25 = .ok (.bipush 9, 2) ∧ decode cX8_leaves 27 = .ok (.invokevirtual 64, 3) ∧ decode cX8_leaves 30 = .ok (.aload_n 0, 1) ∧ decode cX8_leaves 31 = .ok (.iload_n 1, 1) ∧ decode cX8_leaves 32 = .ok (.iconst 2, 1) ∧ decode cX8_leaves 33 = .ok (.invokevirtual 64, 3) ∧ decode cX8_leaves 36 = .ok (.if_icmp .ne 7, 3) ∧ decode cX8_leaves 39 = .ok (.iconst 1, 1) ∧ decode cX8_leaves 40 = .ok (.goto 4, 3) ∧ decode cX8_leaves 43 = .ok (.iconst 0, 1) ∧ decode cX8_leaves 44 = .ok (.istore_n 2, 1) ∧ decode cX8_leaves 45 = .ok (.iload_n 2, 1) ∧ decode cX8_leaves 46 = .ok (.ifCond .eq 54, 3) ∧ decode cX8_leaves 49 = .ok (.aload_n 0, 1) ∧ decode cX8_leaves 50 = .ok (.getfield 7, 3) ∧ decode cX8_leaves 53 = .ok (.bipush 7, 2) ∧ decode cX8_leaves 55 = .ok (.aload_n 0, 1) ∧ decode cX8_leaves 56 = .ok (.getfield 7, 3) ∧ decode cX8_leaves 59 = .ok (.bipush 7, 2) ∧ decode cX8_leaves 61 = .ok (.iaload, 1) ∧ decode cX8_leaves 62 = .ok (.aload_n 0, 1) ∧ decode cX8_leaves 63 = .ok (.iload_n 1, 1) ∧ decode cX8_leaves 64 = .ok (.iconst 0, 1) ∧ decode cX8_leaves 65 = .ok (.invokevirtual 64, 3) ∧ decode cX8_leaves 68 = .ok (.if_icmp .ne 8, 3) ∧ decode cX8_leaves 71 = .ok (.bipush (-4), 2) ∧ decode cX8_leaves 73 = .ok (.goto 10, 3) ∧ decode cX8_leaves 76 = .ok (.aload_n 0, 1) ∧ decode cX8_leaves 77 = .ok (.getfield 7, 3) ∧ decode cX8_leaves 80 = .ok (.bipush 7, 2) ∧ decode cX8_leaves 82 = .ok (.iaload, 1) ∧ decode cX8_leaves 83 = .ok (.iastore, 1) ∧ decode cX8_leaves 84 = .ok (.aload_n 0, 1) ∧ decode cX8_leaves 85 = .ok (.iload_n 1, 1) ∧ decode cX8_leaves 86 = .ok (.invokevirtual 94, 3) ∧ decode cX8_leaves 89 = .ok (.aload_n 0, 1) ∧ decode cX8_leaves 90 = .ok (.getfield 7, 3) ∧ decode cX8_leaves 93 = .ok (.bipush 21, 2) ∧ decode cX8_leaves 95 = .ok (.dup2, 1) ∧ decode cX8_leaves 96 = .ok (.iaload, 1) ∧ decode cX8_leaves 97 = .ok (.iconst 1, 1) ∧ decode cX8_leaves 98 = .ok (.iadd, 1) ∧ decode cX8_leaves 99 = .ok (.iastore, 1) ∧ decode cX8_leaves 100 = .ok (.return_, 1) ∧ True := dq_of (l := (0, .aload_n 0, 1) :: (1, .iload_n 1, 1) :: (2, .bipush 8, 2) :: (4, .invokevirtual 64, 3) :: (7, .aload_n 0, 1) :: (8, .iload_n 1, 1) :: (9, .invokevirtual 103, 3) :: (12, .if_icmp .ne 31, 3) :: (15, .aload_n 0, 1) :: (16, .iload_n 1, 1) :: (17, .invokevirtual 118, 3) :: (20, .ifCond .eq 19, 3) :: (23, .aload_n 0, 1) :: (24, .iload_n 1, 1) :: (25, .bipush 9, 2) :: (27, .invokevirtual 64, 3) :: (30, .aload_n 0, 1) :: (31, .iload_n 1, 1) :: (32, .iconst 2, 1) :: (33, .invokevirtual 64, 3) :: (36, .if_icmp .ne 7, 3) :: (39, .iconst 1, 1) :: (40, .goto 4, 3) :: (43, .iconst 0, 1) :: (44, .istore_n 2, 1) :: (45, .iload_n 2, 1) :: (46, .ifCond .eq 54, 3) :: (49, .aload_n 0, 1) :: (50, .getfield 7, 3) :: (53, .bipush 7, 2) :: (55, .aload_n 0, 1) :: (56, .getfield 7, 3) :: (59, .bipush 7, 2) :: (61, .iaload, 1) :: (62, .aload_n 0, 1) :: (63, .iload_n 1, 1) :: (64, .iconst 0, 1) :: (65, .invokevirtual 64, 3) :: (68, .if_icmp .ne 8, 3) :: (71, .bipush (-4), 2) :: (73, .goto 10, 3) :: (76, .aload_n 0, 1) :: (77, .getfield 7, 3) :: (80, .bipush 7, 2) :: (82, .iaload, 1) :: (83, .iastore, 1) :: (84, .aload_n 0, 1) :: (85, .iload_n 1, 1) :: (86, .invokevirtual 94, 3) :: (89, .aload_n 0, 1) :: (90, .getfield 7, 3) :: (93, .bipush 21, 2) :: (95, .dup2, 1) :: (96, .iaload, 1) :: (97, .iconst 1, 1) :: (98, .iadd, 1) :: (99, .iastore, 1) :: (100, .return_, 1) :: []) (by decide +kernel)
set_option maxRecDepth 100000 in
theorem D_X8_stapled : decode cX8_stapled 0 = .ok (.aload_n 0, 1) ∧ decode cX8_stapled 1 = .ok (.iload_n 1, 1) ∧ decode cX8_stapled 2 = .ok (.invokevirtual 118, 3) ∧ decode cX8_stapled 5 = .ok (.aload_n 0, 1) ∧ decode cX8_stapled 6 = .ok (.getfield 7, 3) ∧ decode cX8_stapled 9 = .ok (.iconst 3, 1) ∧ decode cX8_stapled 10 = .ok (.iaload, 1) ∧ decode cX8_stapled 11 = .ok (.if_icmp .ge 11, 3) ∧ decode cX8_stapled 14 = .ok (.aload_n 0, 1) ∧ decode cX8_stapled 15 = .ok (.iload_n 1, 1) ∧ decode cX8_stapled 16 = .ok (.invokevirtual 118, 3) ∧ decode cX8_stapled 19 = .ok (.goto 9, 3) ∧ decode cX8_stapled 22 = .ok (.aload_n 0, 1) ∧ decode cX8_stapled 23 = .ok (.getfield 7, 3) ∧ decode cX8_stapled 26 = .ok (.iconst 3, 1) ∧ decode cX8_stapled 27 = .ok (.iaload, 1) ∧ decode cX8_stapled 28 = .ok (.istore_n 2, 1) ∧ decode cX8_stapled 29 = .ok (.aload_n 0, 1) ∧ decode cX8_stapled 30 = .ok (.getfield 7, 3) ∧ decode cX8_stapled 33 = .ok (.iconst 3, 1) ∧ decode cX8_stapled 34 = .ok (.dup2, 1) ∧ decode cX8_stapled 35 = .ok (.iaload, 1) ∧ decode cX8_stapled 36 = .ok (.iload_n 2, 1) ∧ decode cX8_stapled 37 = .ok (.isub, 1) ∧ decode cX8_stapled 38 = .ok (.iastore, 1) ∧ decode cX8_stapled 39 = .ok (.aload_n 0, 1) ∧ decode cX8_stapled 40 = .ok (.getfield 7, 3) ∧ decode cX8_stapled 43 = .ok (.bipush 20, 2) ∧ decode cX8_stapled 45 = .ok (.dup2, 1) ∧ decode cX8_stapled 46 = .ok (.iaload, 1) ∧ decode cX8_stapled 47 = .ok (.iload_n 2, 1) ∧ decode cX8_stapled 48 = .ok (.iadd, 1) ∧ decode cX8_stapled 49 = .ok (.iastore, 1) ∧ decode cX8_stapled 50 = .ok (.aload_n 0, 1) ∧ decode cX8_stapled 51 = .ok (.getfield 7, 3) ∧ decode cX8_stapled 54 = .ok (.iload_n 1, 1) ∧ decode cX8_stapled 55 = .ok (.invokestatic 60, 3) ∧ decode cX8_stapled 58 = .ok (.bipush 9, 2) ∧ decode cX8_stapled 60 = .ok (.iadd, 1) ∧ decode cX8_stapled 61 = .ok (.dup2, 1) ∧ decode cX8_stapled 62 = .ok (.iaload, 1) ∧ decode cX8_stapled 63 = .ok (.iconst 1, 1) ∧ decode cX8_stapled 64 = .ok (.iadd, 1) ∧ decode cX8_stapled 65 = .ok (.iastore, 1) ∧ decode cX8_stapled 66 = .ok (.aload_n 0, 1) ∧ decode cX8_stapled 67 = .ok (.iload_n 1, 1) ∧ decode cX8_stapled 68 = .ok (.invokevirtual 124, 3) ∧ decode cX8_stapled 71 = .ok (.return_, 1) ∧ True := dq_of (l := (0, .aload_n 0, 1) :: (1, .iload_n 1, 1) :: (2, .invokevirtual 118, 3) :: (5, .aload_n 0, 1) :: (6, .getfield 7, 3) :: (9, .iconst 3, 1) :: (10, .iaload, 1) :: (11, .if_icmp .ge 11, 3) :: (14, .aload_n 0, 1) :: (15, .iload_n 1, 1) :: (16, .invokevirtual 118, 3) :: (19, .goto 9, 3) :: (22, .aload_n 0, 1) :: (23, .getfield 7, 3) :: (26, .iconst 3, 1) :: (27, .iaload, 1) :: (28, .istore_n 2, 1) :: (29, .aload_n 0, 1) :: (30, .getfield 7, 3) :: (33, .iconst 3, 1) :: (34, .dup2, 1) :: (35, .iaload, 1) :: (36, .iload_n 2, 1) :: (37, .isub, 1) :: (38, .iastore, 1) :: (39, .aload_n 0, 1) :: (40, .getfield 7, 3) :: (43, .bipush 20, 2) :: (45, .dup2, 1) :: (46, .iaload, 1) :: (47, .iload_n 2, 1) :: (48, .iadd, 1) :: (49, .iastore, 1) :: (50, .aload_n 0, 1) :: (51, .getfield 7, 3) :: (54, .iload_n 1, 1) :: (55, .invokestatic 60, 3) :: (58, .bipush 9, 2) :: (60, .iadd, 1) :: (61, .dup2, 1) :: (62, .iaload, 1) :: (63, .iconst 1, 1) :: (64, .iadd, 1) :: (65, .iastore, 1) :: (66, .aload_n 0, 1) :: (67, .iload_n 1, 1) :: (68, .invokevirtual 124, 3) :: (71, .return_, 1) :: []) (by decide +kernel)
set_option maxRecDepth 100000 in
theorem D_X8_takesPaper : decode cX8_takesPaper 0 = .ok (.iconst 0, 1) ∧ decode cX8_takesPaper 1 = .ok (.istore_n 3, 1) ∧ decode cX8_takesPaper 2 = .ok (.aload_n 0, 1) ∧ decode cX8_takesPaper 3 = .ok (.iload_n 3, 1) ∧ decode cX8_takesPaper 4 = .ok (.iload_n 1, 1) ∧ decode cX8_takesPaper 5 = .ok (.iload_n 2, 1) ∧ decode cX8_takesPaper 6 = .ok (.invokevirtual 47, 3) ∧ decode cX8_takesPaper 9 = .ok (.ifCond .eq 19, 3) ∧ decode cX8_takesPaper 12 = .ok (.aload_n 0, 1) ∧ decode cX8_takesPaper 13 = .ok (.getfield 7, 3) ∧ decode cX8_takesPaper 16 = .ok (.bipush 25, 2) ∧ decode cX8_takesPaper 18 = .ok (.iconst 3, 1) ∧ decode cX8_takesPaper 19 = .ok (.iload_n 3, 1) ∧ decode cX8_takesPaper 20 = .ok (.imul, 1) ∧ decode cX8_takesPaper 21 = .ok (.iadd, 1) ∧ decode cX8_takesPaper 22 = .ok (.iconst 2, 1) ∧ decode cX8_takesPaper 23 = .ok (.iadd, 1) ∧ decode cX8_takesPaper 24 = .ok (.iaload, 1) ∧ decode cX8_takesPaper 25 = .ok (.ifCond .ne 9, 3) ∧ decode cX8_takesPaper 28 = .ok (.iinc 3 1, 3) ∧ decode cX8_takesPaper 31 = .ok (.goto (-29), 3) ∧ decode cX8_takesPaper 34 = .ok (.aload_n 0, 1) ∧ decode cX8_takesPaper 35 = .ok (.getfield 7, 3) ∧ decode cX8_takesPaper 38 = .ok (.bipush 25, 2) ∧ decode cX8_takesPaper 40 = .ok (.iconst 3, 1) ∧ decode cX8_takesPaper 41 = .ok (.iload_n 3, 1) ∧ decode cX8_takesPaper 42 = .ok (.imul, 1) ∧ decode cX8_takesPaper 43 = .ok (.iadd, 1) ∧ decode cX8_takesPaper 44 = .ok (.iconst 2, 1) ∧ decode cX8_takesPaper 45 = .ok (.iadd, 1) ∧ decode cX8_takesPaper 46 = .ok (.dup2, 1) ∧ decode cX8_takesPaper 47 = .ok (.iaload, 1) ∧ decode cX8_takesPaper 48 = .ok (.iconst 1, 1) ∧ decode cX8_takesPaper 49 = .ok (.isub, 1) ∧ decode cX8_takesPaper 50 = .ok (.iastore, 1) ∧ decode cX8_takesPaper 51 = .ok (.aload_n 0, 1) ∧ decode cX8_takesPaper 52 = .ok (.getfield 7, 3) ∧ decode cX8_takesPaper 55 = .ok (.bipush 16, 2) ∧ decode cX8_takesPaper 57 = .ok (.dup2, 1) ∧ decode cX8_takesPaper 58 = .ok (.iaload, 1) ∧ decode cX8_takesPaper 59 = .ok (.iconst 1, 1) ∧ decode cX8_takesPaper 60 = .ok (.iadd, 1) ∧ decode cX8_takesPaper 61 = .ok (.iastore, 1) ∧ decode cX8_takesPaper 62 = .ok (.iconst 0, 1) ∧ decode cX8_takesPaper 63 = .ok (.istore 4, 2) ∧ decode cX8_takesPaper 65 = .ok (.iload 4, 2) ∧ decode cX8_takesPaper 67 = .ok (.aload_n 0, 1) ∧ decode cX8_takesPaper 68 = .ok (.getfield 7, 3) ∧ decode cX8_takesPaper 71 = .ok (.bipush 9, 2) ∧ decode cX8_takesPaper 73 = .ok (.iaload, 1) ∧ decode cX8_takesPaper 74 = .ok (.if_icmp .ge 43, 3) ∧ decode cX8_takesPaper 77 = .ok (.aload_n 0, 1) ∧ decode cX8_takesPaper 78 = .ok (.getfield 7, 3) ∧ decode cX8_takesPaper 81 = .ok (.bipush 37, 2) ∧ decode cX8_takesPaper 83 = .ok (.iconst 3, 1) ∧ decode cX8_takesPaper 84 = .ok (.iload 4, 2) ∧ decode cX8_takesPaper 86 = .ok (.imul, 1) ∧ decode cX8_takesPaper 87 = .ok (.iadd, 1) ∧ decode cX8_takesPaper 88 = .ok (.iaload, 1) ∧ decode cX8_takesPaper 89 = .ok (.iload_n 1, 1) ∧ decode cX8_takesPaper 90 = .ok (.if_icmp .ne 21, 3) ∧ decode cX8_takesPaper 93 = .ok (.aload_n 0, 1) ∧ decode cX8_takesPaper 94 = .ok (.getfield 7, 3) ∧ decode cX8_takesPaper 97 = .ok (.bipush 37, 2) ∧ decode cX8_takesPaper 99 = .ok (.iconst 3, 1) ∧ decode cX8_takesPaper 100 = .ok (.iload 4, 2) ∧ decode cX8_takesPaper 102 = .ok (.imul, 1) ∧ decode cX8_takesPaper 103 = .ok (.iadd, 1) ∧ decode cX8_takesPaper 104 = .ok (.iconst 1, 1) ∧ decode cX8_takesPaper 105 = .ok (.iadd, 1) ∧ decode cX8_takesPaper 106 = .ok (.iaload, 1) ∧ decode cX8_takesPaper 107 = .ok (.iload_n 2, 1) ∧ decode cX8_takesPaper 108 = .ok (.if_icmp .eq 9, 3) ∧ decode cX8_takesPaper 111 = .ok (.iinc 4 1, 3) ∧ decode cX8_takesPaper 114 = .ok (.goto (-49), 3) ∧ decode cX8_takesPaper 117 = .ok (.iload 4, 2) ∧ decode cX8_takesPaper 119 = .ok (.aload_n 0, 1) ∧ decode cX8_takesPaper 120 = .ok (.getfield 7, 3) ∧ decode cX8_takesPaper 123 = .ok (.bipush 9, 2) ∧ decode cX8_takesPaper 125 = .ok (.iaload, 1) ∧ decode cX8_takesPaper 126 = .ok (.if_icmp .ne 57, 3) ∧ decode cX8_takesPaper 129 = .ok (.aload_n 0, 1) ∧ decode cX8_takesPaper 130 = .ok (.getfield 7, 3) ∧ decode cX8_takesPaper 133 = .ok (.bipush 37, 2) ∧ decode cX8_takesPaper 135 = .ok (.iconst 3, 1) ∧ decode cX8_takesPaper 136 = .ok (.iload 4, 2) ∧ decode cX8_takesPaper 138 = .ok (.imul, 1) ∧ decode cX8_takesPaper 139 = .ok (.iadd, 1) ∧ decode cX8_takesPaper 140 = .ok (.iload_n 1, 1) ∧ decode cX8_takesPaper 141 = .ok (.iastore, 1) ∧ decode cX8_takesPaper 142 = .ok (.aload_n 0, 1) ∧ decode cX8_takesPaper 143 = .ok (.getfield 7, 3) ∧ decode cX8_takesPaper 146 = .ok (.bipush 37, 2) ∧ decode cX8_takesPaper 148 = .ok (.iconst 3, 1) ∧ decode cX8_takesPaper 149 = .ok (.iload 4, 2) ∧ decode cX8_takesPaper 151 = .ok (.imul, 1) ∧ decode cX8_takesPaper 152 = .ok (.iadd, 1) ∧ decode cX8_takesPaper 153 = .ok (.iconst 1, 1) ∧ decode cX8_takesPaper 154 = .ok (.iadd, 1) ∧ decode cX8_takesPaper 155 = .ok (.iload_n 2, 1) ∧ decode cX8_takesPaper 156 = .ok (.iastore, 1) ∧ decode cX8_takesPaper 157 = .ok (.aload_n 0, 1) ∧ decode cX8_takesPaper 158 = .ok (.getfield 7, 3) ∧ decode cX8_takesPaper 161 = .ok (.bipush 37, 2) ∧ decode cX8_takesPaper 163 = .ok (.iconst 3, 1) ∧ decode cX8_takesPaper 164 = .ok (.iload 4, 2) ∧ decode cX8_takesPaper 166 = .ok (.imul, 1) ∧ decode cX8_takesPaper 167 = .ok (.iadd, 1) ∧ decode cX8_takesPaper 168 = .ok (.iconst 2, 1) ∧ decode cX8_takesPaper 169 = .ok (.iadd, 1) ∧ decode cX8_takesPaper 170 = .ok (.iconst 0, 1) ∧ decode cX8_takesPaper 171 = .ok (.iastore, 1) ∧ decode cX8_takesPaper 172 = .ok (.aload_n 0, 1) ∧ decode cX8_takesPaper 173 = .ok (.getfield 7, 3) ∧ decode cX8_takesPaper 176 = .ok (.bipush 9, 2) ∧ decode cX8_takesPaper 178 = .ok (.dup2, 1) ∧ decode cX8_takesPaper 179 = .ok (.iaload, 1) ∧ decode cX8_takesPaper 180 = .ok (.iconst 1, 1) ∧ decode cX8_takesPaper 181 = .ok (.iadd, 1) ∧ decode cX8_takesPaper 182 = .ok (.iastore, 1) ∧ decode cX8_takesPaper 183 = .ok (.aload_n 0, 1) ∧ decode cX8_takesPaper 184 = .ok (.getfield 7, 3) ∧ decode cX8_takesPaper 187 = .ok (.bipush 37, 2) ∧ decode cX8_takesPaper 189 = .ok (.iconst 3, 1) ∧ decode cX8_takesPaper 190 = .ok (.iload 4, 2) ∧ decode cX8_takesPaper 192 = .ok (.imul, 1) ∧ decode cX8_takesPaper 193 = .ok (.iadd, 1) ∧ decode cX8_takesPaper 194 = .ok (.iconst 2, 1) ∧ decode cX8_takesPaper 195 = .ok (.iadd, 1) ∧ decode cX8_takesPaper 196 = .ok (.dup2, 1) ∧ decode cX8_takesPaper 197 = .ok (.iaload, 1) ∧ decode cX8_takesPaper 198 = .ok (.iconst 1, 1) ∧ decode cX8_takesPaper 199 = .ok (.iadd, 1) ∧ decode cX8_takesPaper 200 = .ok (.iastore, 1) ∧ decode cX8_takesPaper 201 = .ok (.return_, 1) ∧ True := dq_of (l := (0, .iconst 0, 1) :: (1, .istore_n 3, 1) :: (2, .aload_n 0, 1) :: (3, .iload_n 3, 1) :: (4, .iload_n 1, 1) :: (5, .iload_n 2, 1) :: (6, .invokevirtual 47, 3) :: (9, .ifCond .eq 19, 3) :: (12, .aload_n 0, 1) :: (13, .getfield 7, 3) :: (16, .bipush 25, 2) :: (18, .iconst 3, 1) :: (19, .iload_n 3, 1) :: (20, .imul, 1) :: (21, .iadd, 1) :: (22, .iconst 2, 1) :: (23, .iadd, 1) :: (24, .iaload, 1) :: (25, .ifCond .ne 9, 3) :: (28, .iinc 3 1, 3) :: (31, .goto (-29), 3) :: (34, .aload_n 0, 1) :: (35, .getfield 7, 3) :: (38, .bipush 25, 2) :: (40, .iconst 3, 1) :: (41, .iload_n 3, 1) :: (42, .imul, 1) :: (43, .iadd, 1) :: (44, .iconst 2, 1) :: (45, .iadd, 1) :: (46, .dup2, 1) :: (47, .iaload, 1) :: (48, .iconst 1, 1) :: (49, .isub, 1) :: (50, .iastore, 1) :: (51, .aload_n 0, 1) :: (52, .getfield 7, 3) :: (55, .bipush 16, 2) :: (57, .dup2, 1) :: (58, .iaload, 1) :: (59, .iconst 1, 1) :: (60, .iadd, 1) :: (61, .iastore, 1) :: (62, .iconst 0, 1) :: (63, .istore 4, 2) :: (65, .iload 4, 2) :: (67, .aload_n 0, 1) :: (68, .getfield 7, 3) :: (71, .bipush 9, 2) :: (73, .iaload, 1) :: (74, .if_icmp .ge 43, 3) :: (77, .aload_n 0, 1) :: (78, .getfield 7, 3) :: (81, .bipush 37, 2) :: (83, .iconst 3, 1) :: (84, .iload 4, 2) :: (86, .imul, 1) :: (87, .iadd, 1) :: (88, .iaload, 1) :: (89, .iload_n 1, 1) :: (90, .if_icmp .ne 21, 3) :: (93, .aload_n 0, 1) :: (94, .getfield 7, 3) :: (97, .bipush 37, 2) :: (99, .iconst 3, 1) :: (100, .iload 4, 2) :: (102, .imul, 1) :: (103, .iadd, 1) :: (104, .iconst 1, 1) :: (105, .iadd, 1) :: (106, .iaload, 1) :: (107, .iload_n 2, 1) :: (108, .if_icmp .eq 9, 3) :: (111, .iinc 4 1, 3) :: (114, .goto (-49), 3) :: (117, .iload 4, 2) :: (119, .aload_n 0, 1) :: (120, .getfield 7, 3) :: (123, .bipush 9, 2) :: (125, .iaload, 1) :: (126, .if_icmp .ne 57, 3) :: (129, .aload_n 0, 1) :: (130, .getfield 7, 3) :: (133, .bipush 37, 2) :: (135, .iconst 3, 1) :: (136, .iload 4, 2) :: (138, .imul, 1) :: (139, .iadd, 1) :: (140, .iload_n 1, 1) :: (141, .iastore, 1) :: (142, .aload_n 0, 1) :: (143, .getfield 7, 3) :: (146, .bipush 37, 2) :: (148, .iconst 3, 1) :: (149, .iload 4, 2) :: (151, .imul, 1) :: (152, .iadd, 1) :: (153, .iconst 1, 1) :: (154, .iadd, 1) :: (155, .iload_n 2, 1) :: (156, .iastore, 1) :: (157, .aload_n 0, 1) :: (158, .getfield 7, 3) :: (161, .bipush 37, 2) :: (163, .iconst 3, 1) :: (164, .iload 4, 2) :: (166, .imul, 1) :: (167, .iadd, 1) :: (168, .iconst 2, 1) :: (169, .iadd, 1) :: (170, .iconst 0, 1) :: (171, .iastore, 1) :: (172, .aload_n 0, 1) :: (173, .getfield 7, 3) :: (176, .bipush 9, 2) :: (178, .dup2, 1) :: (179, .iaload, 1) :: (180, .iconst 1, 1) :: (181, .iadd, 1) :: (182, .iastore, 1) :: (183, .aload_n 0, 1) :: (184, .getfield 7, 3) :: (187, .bipush 37, 2) :: (189, .iconst 3, 1) :: (190, .iload 4, 2) :: (192, .imul, 1) :: (193, .iadd, 1) :: (194, .iconst 2, 1) :: (195, .iadd, 1) :: (196, .dup2, 1) :: (197, .iaload, 1) :: (198, .iconst 1, 1) :: (199, .iadd, 1) :: (200, .iastore, 1) :: (201, .return_, 1) :: []) (by decide +kernel)
set_option maxRecDepth 100000 in
theorem D_X8_sides : decode cX8_sides 0 = .ok (.aload_n 0, 1) ∧ decode cX8_sides 1 = .ok (.iload_n 1, 1) ∧ decode cX8_sides 2 = .ok (.iconst 5, 1) ∧ decode cX8_sides 3 = .ok (.invokevirtual 64, 3) ∧ decode cX8_sides 6 = .ok (.iconst 1, 1) ∧ decode cX8_sides 7 = .ok (.iand, 1) ∧ decode cX8_sides 8 = .ok (.iconst 1, 1) ∧ decode cX8_sides 9 = .ok (.if_icmp .ne 33, 3) ∧ decode cX8_sides 12 = .ok (.aload_n 0, 1) ∧ decode cX8_sides 13 = .ok (.iload_n 1, 1) ∧ decode cX8_sides 14 = .ok (.invokevirtual 106, 3) ∧ decode cX8_sides 17 = .ok (.aload_n 0, 1) ∧ decode cX8_sides 18 = .ok (.iload_n 1, 1) ∧ decode cX8_sides 19 = .ok (.invokevirtual 97, 3) ∧ decode cX8_sides 22 = .ok (.iconst 1, 1) ∧ decode cX8_sides 23 = .ok (.isub, 1) ∧ decode cX8_sides 24 = .ok (.if_icmp .lt 14, 3) ∧ decode cX8_sides 27 = .ok (.aload_n 0, 1) ∧ decode cX8_sides 28 = .ok (.iload_n 1, 1) ∧ decode cX8_sides 29 = .ok (.iconst 1, 1) ∧ decode cX8_sides 30 = .ok (.invokevirtual 64, 3) ∧ decode cX8_sides 33 = .ok (.iconst 2, 1) ∧ decode cX8_sides 34 = .ok (.irem, 1) ∧ decode cX8_sides 35 = .ok (.ifCond .ne 7, 3) ∧ decode cX8_sides 38 = .ok (.iconst 1, 1) ∧ decode cX8_sides 39 = .ok (.goto 4, 3) ∧ decode cX8_sides 42 = .ok (.iconst 0, 1) ∧ decode cX8_sides 43 = .ok (.istore_n 2, 1) ∧ decode cX8_sides 44 = .ok (.iload_n 2, 1) ∧ decode cX8_sides 45 = .ok (.ifCond .eq 7, 3) ∧ decode cX8_sides 48 = .ok (.iconst 2, 1) ∧ decode cX8_sides 49 = .ok (.goto 4, 3) ∧ decode cX8_sides 52 = .ok (.iconst 1, 1) ∧ decode cX8_sides 53 = .ok (.ireturn, 1) ∧ True := dq_of (l := (0, .aload_n 0, 1) :: (1, .iload_n 1, 1) :: (2, .iconst 5, 1) :: (3, .invokevirtual 64, 3) :: (6, .iconst 1, 1) :: (7, .iand, 1) :: (8, .iconst 1, 1) :: (9, .if_icmp .ne 33, 3) :: (12, .aload_n 0, 1) :: (13, .iload_n 1, 1) :: (14, .invokevirtual 106, 3) :: (17, .aload_n 0, 1) :: (18, .iload_n 1, 1) :: (19, .invokevirtual 97, 3) :: (22, .iconst 1, 1) :: (23, .isub, 1) :: (24, .if_icmp .lt 14, 3) :: (27, .aload_n 0, 1) :: (28, .iload_n 1, 1) :: (29, .iconst 1, 1) :: (30, .invokevirtual 64, 3) :: (33, .iconst 2, 1) :: (34, .irem, 1) :: (35, .ifCond .ne 7, 3) :: (38, .iconst 1, 1) :: (39, .goto 4, 3) :: (42, .iconst 0, 1) :: (43, .istore_n 2, 1) :: (44, .iload_n 2, 1) :: (45, .ifCond .eq 7, 3) :: (48, .iconst 2, 1) :: (49, .goto 4, 3) :: (52, .iconst 1, 1) :: (53, .ireturn, 1) :: []) (by decide +kernel)
set_option maxRecDepth 100000 in
theorem D_X8_beginsSheet : decode cX8_beginsSheet 0 = .ok (.aload_n 0, 1) ∧ decode cX8_beginsSheet 1 = .ok (.aload_n 0, 1) ∧ decode cX8_beginsSheet 2 = .ok (.iload_n 1, 1) ∧ decode cX8_beginsSheet 3 = .ok (.iconst 3, 1) ∧ decode cX8_beginsSheet 4 = .ok (.invokevirtual 64, 3) ∧ decode cX8_beginsSheet 7 = .ok (.aload_n 0, 1) ∧ decode cX8_beginsSheet 8 = .ok (.iload_n 1, 1) ∧ decode cX8_beginsSheet 9 = .ok (.iconst 4, 1) ∧ decode cX8_beginsSheet 10 = .ok (.invokevirtual 64, 3) ∧ decode cX8_beginsSheet 13 = .ok (.invokevirtual 127, 3) ∧ decode cX8_beginsSheet 16 = .ok (.aload_n 0, 1) ∧ decode cX8_beginsSheet 17 = .ok (.iload_n 1, 1) ∧ decode cX8_beginsSheet 18 = .ok (.invokevirtual 131, 3) ∧ decode cX8_beginsSheet 21 = .ok (.istore_n 2, 1) ∧ decode cX8_beginsSheet 22 = .ok (.aload_n 0, 1) ∧ decode cX8_beginsSheet 23 = .ok (.getfield 7, 3) ∧ decode cX8_beginsSheet 26 = .ok (.bipush 7, 2) ∧ decode cX8_beginsSheet 28 = .ok (.aload_n 0, 1) ∧ decode cX8_beginsSheet 29 = .ok (.iload_n 1, 1) ∧ decode cX8_beginsSheet 30 = .ok (.iconst 0, 1) ∧ decode cX8_beginsSheet 31 = .ok (.invokevirtual 64, 3) ∧ decode cX8_beginsSheet 34 = .ok (.iastore, 1) ∧ decode cX8_beginsSheet 35 = .ok (.aload_n 0, 1) ∧ decode cX8_beginsSheet 36 = .ok (.getfield 7, 3) ∧ decode cX8_beginsSheet 39 = .ok (.iconst 5, 1) ∧ decode cX8_beginsSheet 40 = .ok (.iconst 1, 1) ∧ decode cX8_beginsSheet 41 = .ok (.iastore, 1) ∧ decode cX8_beginsSheet 42 = .ok (.aload_n 0, 1) ∧ decode cX8_beginsSheet 43 = .ok (.getfield 7, 3) ∧ decode cX8_beginsSheet 46 = .ok (.bipush 6, 2) ∧ decode cX8_beginsSheet 48 = .ok (.aload_n 0, 1) ∧ decode cX8_beginsSheet 49 = .ok (.iload_n 1, 1) ∧ decode cX8_beginsSheet 50 = .ok (.iconst 0, 1) ∧ decode cX8_beginsSheet 51 = .ok (.invokevirtual 64, 3) ∧ decode cX8_beginsSheet 54 = .ok (.iastore, 1) ∧ decode cX8_beginsSheet 55 = .ok (.aload_n 0, 1) ∧ decode cX8_beginsSheet 56 = .ok (.getfield 7, 3) ∧ decode cX8_beginsSheet 59 = .ok (.iconst 4, 1) ∧ decode cX8_beginsSheet 60 = .ok (.iload_n 2, 1) ∧ decode cX8_beginsSheet 61 = .ok (.aload_n 0, 1) ∧ decode cX8_beginsSheet 62 = .ok (.getfield 7, 3) ∧ decode cX8_beginsSheet 65 = .ok (.bipush 10, 2) ∧ decode cX8_beginsSheet 67 = .ok (.iaload, 1) ∧ decode cX8_beginsSheet 68 = .ok (.imul, 1) ∧ decode cX8_beginsSheet 69 = .ok (.iload_n 2, 1) ∧ decode cX8_beginsSheet 70 = .ok (.iconst 2, 1) ∧ decode cX8_beginsSheet 71 = .ok (.if_icmp .ne 13, 3) ∧ decode cX8_beginsSheet 74 = .ok (.aload_n 0, 1) ∧ decode cX8_beginsSheet 75 = .ok (.getfield 7, 3) ∧ decode cX8_beginsSheet 78 = .ok (.bipush 11, 2) ∧ decode cX8_beginsSheet 80 = .ok (.iaload, 1) ∧ decode cX8_beginsSheet 81 = .ok (.goto 4, 3) ∧ decode cX8_beginsSheet 84 = .ok (.iconst 0, 1) ∧ decode cX8_beginsSheet 85 = .ok (.iadd, 1) ∧ decode cX8_beginsSheet 86 = .ok (.iastore, 1) ∧ decode cX8_beginsSheet 87 = .ok (.return_, 1) ∧ True := dq_of (l := (0, .aload_n 0, 1) :: (1, .aload_n 0, 1) :: (2, .iload_n 1, 1) :: (3, .iconst 3, 1) :: (4, .invokevirtual 64, 3) :: (7, .aload_n 0, 1) :: (8, .iload_n 1, 1) :: (9, .iconst 4, 1) :: (10, .invokevirtual 64, 3) :: (13, .invokevirtual 127, 3) :: (16, .aload_n 0, 1) :: (17, .iload_n 1, 1) :: (18, .invokevirtual 131, 3) :: (21, .istore_n 2, 1) :: (22, .aload_n 0, 1) :: (23, .getfield 7, 3) :: (26, .bipush 7, 2) :: (28, .aload_n 0, 1) :: (29, .iload_n 1, 1) :: (30, .iconst 0, 1) :: (31, .invokevirtual 64, 3) :: (34, .iastore, 1) :: (35, .aload_n 0, 1) :: (36, .getfield 7, 3) :: (39, .iconst 5, 1) :: (40, .iconst 1, 1) :: (41, .iastore, 1) :: (42, .aload_n 0, 1) :: (43, .getfield 7, 3) :: (46, .bipush 6, 2) :: (48, .aload_n 0, 1) :: (49, .iload_n 1, 1) :: (50, .iconst 0, 1) :: (51, .invokevirtual 64, 3) :: (54, .iastore, 1) :: (55, .aload_n 0, 1) :: (56, .getfield 7, 3) :: (59, .iconst 4, 1) :: (60, .iload_n 2, 1) :: (61, .aload_n 0, 1) :: (62, .getfield 7, 3) :: (65, .bipush 10, 2) :: (67, .iaload, 1) :: (68, .imul, 1) :: (69, .iload_n 2, 1) :: (70, .iconst 2, 1) :: (71, .if_icmp .ne 13, 3) :: (74, .aload_n 0, 1) :: (75, .getfield 7, 3) :: (78, .bipush 11, 2) :: (80, .iaload, 1) :: (81, .goto 4, 3) :: (84, .iconst 0, 1) :: (85, .iadd, 1) :: (86, .iastore, 1) :: (87, .return_, 1) :: []) (by decide +kernel)
set_option maxRecDepth 100000 in
theorem D_X8_begins : decode cX8_begins 0 = .ok (.iconst 0, 1) ∧ decode cX8_begins 1 = .ok (.istore_n 1, 1) ∧ decode cX8_begins 2 = .ok (.iload_n 1, 1) ∧ decode cX8_begins 3 = .ok (.ifCond .ne 100, 3) ∧ decode cX8_begins 6 = .ok (.aload_n 0, 1) ∧ decode cX8_begins 7 = .ok (.getfield 7, 3) ∧ decode cX8_begins 10 = .ok (.iconst 5, 1) ∧ decode cX8_begins 11 = .ok (.iaload, 1) ∧ decode cX8_begins 12 = .ok (.ifCond .ne 91, 3) ∧ decode cX8_begins 15 = .ok (.aload_n 0, 1) ∧ decode cX8_begins 16 = .ok (.invokevirtual 134, 3) ∧ decode cX8_begins 19 = .ok (.istore_n 2, 1) ∧ decode cX8_begins 20 = .ok (.aload_n 0, 1) ∧ decode cX8_begins 21 = .ok (.iload_n 2, 1) ∧ decode cX8_begins 22 = .ok (.invokevirtual 138, 3) ∧ decode cX8_begins 25 = .ok (.istore_n 1, 1) ∧ decode cX8_begins 26 = .ok (.iload_n 1, 1) ∧ decode cX8_begins 27 = .ok (.ifCond .ne 64, 3) ∧ decode cX8_begins 30 = .ok (.aload_n 0, 1) ∧ decode cX8_begins 31 = .ok (.iload_n 2, 1) ∧ decode cX8_begins 32 = .ok (.invokevirtual 121, 3) ∧ decode cX8_begins 35 = .ok (.ifCond .eq 56, 3) ∧ decode cX8_begins 38 = .ok (.aload_n 0, 1) ∧ decode cX8_begins 39 = .ok (.getfield 7, 3) ∧ decode cX8_begins 42 = .ok (.iconst 4, 1) ∧ decode cX8_begins 43 = .ok (.aload_n 0, 1) ∧ decode cX8_begins 44 = .ok (.getfield 7, 3) ∧ decode cX8_begins 47 = .ok (.bipush 12, 2) ∧ decode cX8_begins 49 = .ok (.iaload, 1) ∧ decode cX8_begins 50 = .ok (.iastore, 1) ∧ decode cX8_begins 51 = .ok (.aload_n 0, 1) ∧ decode cX8_begins 52 = .ok (.getfield 7, 3) ∧ decode cX8_begins 55 = .ok (.iconst 4, 1) ∧ decode cX8_begins 56 = .ok (.iaload, 1) ∧ decode cX8_begins 57 = .ok (.ifCond .ne 11, 3) ∧ decode cX8_begins 60 = .ok (.aload_n 0, 1) ∧ decode cX8_begins 61 = .ok (.iload_n 2, 1) ∧ decode cX8_begins 62 = .ok (.invokevirtual 141, 3) ∧ decode cX8_begins 65 = .ok (.goto 35, 3) ∧ decode cX8_begins 68 = .ok (.aload_n 0, 1) ∧ decode cX8_begins 69 = .ok (.getfield 7, 3) ∧ decode cX8_begins 72 = .ok (.iconst 5, 1) ∧ decode cX8_begins 73 = .ok (.iconst 2, 1) ∧ decode cX8_begins 74 = .ok (.iastore, 1) ∧ decode cX8_begins 75 = .ok (.aload_n 0, 1) ∧ decode cX8_begins 76 = .ok (.getfield 7, 3) ∧ decode cX8_begins 79 = .ok (.bipush 6, 2) ∧ decode cX8_begins 81 = .ok (.aload_n 0, 1) ∧ decode cX8_begins 82 = .ok (.iload_n 2, 1) ∧ decode cX8_begins 83 = .ok (.iconst 0, 1) ∧ decode cX8_begins 84 = .ok (.invokevirtual 64, 3) ∧ decode cX8_begins 87 = .ok (.iastore, 1) ∧ decode cX8_begins 88 = .ok (.goto 12, 3) ∧ decode cX8_begins 91 = .ok (.iload_n 1, 1) ∧ decode cX8_begins 92 = .ok (.ifCond .ne 8, 3) ∧ decode cX8_begins 95 = .ok (.aload_n 0, 1) ∧ decode cX8_begins 96 = .ok (.iload_n 2, 1) ∧ decode cX8_begins 97 = .ok (.invokevirtual 144, 3) ∧ decode cX8_begins 100 = .ok (.goto (-98), 3) ∧ decode cX8_begins 103 = .ok (.iload_n 1, 1) ∧ decode cX8_begins 104 = .ok (.ireturn, 1) ∧ True := dq_of (l := (0, .iconst 0, 1) :: (1, .istore_n 1, 1) :: (2, .iload_n 1, 1) :: (3, .ifCond .ne 100, 3) :: (6, .aload_n 0, 1) :: (7, .getfield 7, 3) :: (10, .iconst 5, 1) :: (11, .iaload, 1) :: (12, .ifCond .ne 91, 3) :: (15, .aload_n 0, 1) :: (16, .invokevirtual 134, 3) :: (19, .istore_n 2, 1) :: (20, .aload_n 0, 1) :: (21, .iload_n 2, 1) :: (22, .invokevirtual 138, 3) :: (25, .istore_n 1, 1) :: (26, .iload_n 1, 1) :: (27, .ifCond .ne 64, 3) :: (30, .aload_n 0, 1) :: (31, .iload_n 2, 1) :: (32, .invokevirtual 121, 3) :: (35, .ifCond .eq 56, 3) :: (38, .aload_n 0, 1) :: (39, .getfield 7, 3) :: (42, .iconst 4, 1) :: (43, .aload_n 0, 1) :: (44, .getfield 7, 3) :: (47, .bipush 12, 2) :: (49, .iaload, 1) :: (50, .iastore, 1) :: (51, .aload_n 0, 1) :: (52, .getfield 7, 3) :: (55, .iconst 4, 1) :: (56, .iaload, 1) :: (57, .ifCond .ne 11, 3) :: (60, .aload_n 0, 1) :: (61, .iload_n 2, 1) :: (62, .invokevirtual 141, 3) :: (65, .goto 35, 3) :: (68, .aload_n 0, 1) :: (69, .getfield 7, 3) :: (72, .iconst 5, 1) :: (73, .iconst 2, 1) :: (74, .iastore, 1) :: (75, .aload_n 0, 1) :: (76, .getfield 7, 3) :: (79, .bipush 6, 2) :: (81, .aload_n 0, 1) :: (82, .iload_n 2, 1) :: (83, .iconst 0, 1) :: (84, .invokevirtual 64, 3) :: (87, .iastore, 1) :: (88, .goto 12, 3) :: (91, .iload_n 1, 1) :: (92, .ifCond .ne 8, 3) :: (95, .aload_n 0, 1) :: (96, .iload_n 2, 1) :: (97, .invokevirtual 144, 3) :: (100, .goto (-98), 3) :: (103, .iload_n 1, 1) :: (104, .ireturn, 1) :: []) (by decide +kernel)
set_option maxRecDepth 100000 in
theorem D_X8_finishes : decode cX8_finishes 0 = .ok (.aload_n 0, 1) ∧ decode cX8_finishes 1 = .ok (.aload_n 0, 1) ∧ decode cX8_finishes 2 = .ok (.getfield 7, 3) ∧ decode cX8_finishes 5 = .ok (.bipush 6, 2) ∧ decode cX8_finishes 7 = .ok (.iaload, 1) ∧ decode cX8_finishes 8 = .ok (.invokevirtual 87, 3) ∧ decode cX8_finishes 11 = .ok (.istore_n 1, 1) ∧ decode cX8_finishes 12 = .ok (.aload_n 0, 1) ∧ decode cX8_finishes 13 = .ok (.getfield 7, 3) ∧ decode cX8_finishes 16 = .ok (.iconst 5, 1) ∧ decode cX8_finishes 17 = .ok (.iaload, 1) ∧ decode cX8_finishes 18 = .ok (.istore_n 2, 1) ∧ decode cX8_finishes 19 = .ok (.aload_n 0, 1) ∧ decode cX8_finishes 20 = .ok (.invokevirtual 84, 3) ∧ decode cX8_finishes 23 = .ok (.iload_n 2, 1) ∧ decode cX8_finishes 24 = .ok (.iconst 2, 1) ∧ decode cX8_finishes 25 = .ok (.if_icmp .ne 9, 3) ∧ decode cX8_finishes 28 = .ok (.aload_n 0, 1) ∧ decode cX8_finishes 29 = .ok (.iload_n 1, 1) ∧ decode cX8_finishes 30 = .ok (.invokevirtual 141, 3) ∧ decode cX8_finishes 33 = .ok (.return_, 1) ∧ decode cX8_finishes 34 = .ok (.aload_n 0, 1) ∧ decode cX8_finishes 35 = .ok (.getfield 7, 3) ∧ decode cX8_finishes 38 = .ok (.bipush 8, 2) ∧ decode cX8_finishes 40 = .ok (.dup2, 1) ∧ decode cX8_finishes 41 = .ok (.iaload, 1) ∧ decode cX8_finishes 42 = .ok (.iconst 1, 1) ∧ decode cX8_finishes 43 = .ok (.iadd, 1) ∧ decode cX8_finishes 44 = .ok (.iastore, 1) ∧ decode cX8_finishes 45 = .ok (.aload_n 0, 1) ∧ decode cX8_finishes 46 = .ok (.getfield 7, 3) ∧ decode cX8_finishes 49 = .ok (.bipush 14, 2) ∧ decode cX8_finishes 51 = .ok (.iaload, 1) ∧ decode cX8_finishes 52 = .ok (.ifCond .le 33, 3) ∧ decode cX8_finishes 55 = .ok (.aload_n 0, 1) ∧ decode cX8_finishes 56 = .ok (.getfield 7, 3) ∧ decode cX8_finishes 59 = .ok (.bipush 8, 2) ∧ decode cX8_finishes 61 = .ok (.iaload, 1) ∧ decode cX8_finishes 62 = .ok (.aload_n 0, 1) ∧ decode cX8_finishes 63 = .ok (.getfield 7, 3) ∧ decode cX8_finishes 66 = .ok (.bipush 14, 2) ∧ decode cX8_finishes 68 = .ok (.iaload, 1) ∧ decode cX8_finishes 69 = .ok (.irem, 1) ∧ decode cX8_finishes 70 = .ok (.ifCond .ne 15, 3) ∧ decode cX8_finishes 73 = .ok (.aload_n 0, 1) ∧ decode cX8_finishes 74 = .ok (.getfield 7, 3) ∧ decode cX8_finishes 77 = .ok (.bipush 18, 2) ∧ decode cX8_finishes 79 = .ok (.dup2, 1) ∧ decode cX8_finishes 80 = .ok (.iaload, 1) ∧ decode cX8_finishes 81 = .ok (.iconst 1, 1) ∧ decode cX8_finishes 82 = .ok (.iadd, 1) ∧ decode cX8_finishes 83 = .ok (.iastore, 1) ∧ decode cX8_finishes 84 = .ok (.return_, 1) ∧ decode cX8_finishes 85 = .ok (.aload_n 0, 1) ∧ decode cX8_finishes 86 = .ok (.getfield 7, 3) ∧ decode cX8_finishes 89 = .ok (.iconst 2, 1) ∧ decode cX8_finishes 90 = .ok (.dup2, 1) ∧ decode cX8_finishes 91 = .ok (.iaload, 1) ∧ decode cX8_finishes 92 = .ok (.iconst 1, 1) ∧ decode cX8_finishes 93 = .ok (.iadd, 1) ∧ decode cX8_finishes 94 = .ok (.iastore, 1) ∧ decode cX8_finishes 95 = .ok (.aload_n 0, 1) ∧ decode cX8_finishes 96 = .ok (.getfield 7, 3) ∧ decode cX8_finishes 99 = .ok (.bipush 17, 2) ∧ decode cX8_finishes 101 = .ok (.dup2, 1) ∧ decode cX8_finishes 102 = .ok (.iaload, 1) ∧ decode cX8_finishes 103 = .ok (.iconst 1, 1) ∧ decode cX8_finishes 104 = .ok (.iadd, 1) ∧ decode cX8_finishes 105 = .ok (.iastore, 1) ∧ decode cX8_finishes 106 = .ok (.aload_n 0, 1) ∧ decode cX8_finishes 107 = .ok (.getfield 7, 3) ∧ decode cX8_finishes 110 = .ok (.bipush 19, 2) ∧ decode cX8_finishes 112 = .ok (.dup2, 1) ∧ decode cX8_finishes 113 = .ok (.iaload, 1) ∧ decode cX8_finishes 114 = .ok (.aload_n 0, 1) ∧ decode cX8_finishes 115 = .ok (.iload_n 1, 1) ∧ decode cX8_finishes 116 = .ok (.invokevirtual 131, 3) ∧ decode cX8_finishes 119 = .ok (.iadd, 1) ∧ decode cX8_finishes 120 = .ok (.iastore, 1) ∧ decode cX8_finishes 121 = .ok (.aload_n 0, 1) ∧ decode cX8_finishes 122 = .ok (.getfield 7, 3) ∧ decode cX8_finishes 125 = .ok (.iload_n 1, 1) ∧ decode cX8_finishes 126 = .ok (.invokestatic 60, 3) ∧ decode cX8_finishes 129 = .ok (.bipush 8, 2) ∧ decode cX8_finishes 131 = .ok (.iadd, 1) ∧ decode cX8_finishes 132 = .ok (.dup2, 1) ∧ decode cX8_finishes 133 = .ok (.iaload, 1) ∧ decode cX8_finishes 134 = .ok (.iconst 1, 1) ∧ decode cX8_finishes 135 = .ok (.iadd, 1) ∧ decode cX8_finishes 136 = .ok (.iastore, 1) ∧ decode cX8_finishes 137 = .ok (.aload_n 0, 1) ∧ decode cX8_finishes 138 = .ok (.iload_n 1, 1) ∧ decode cX8_finishes 139 = .ok (.invokevirtual 124, 3) ∧ decode cX8_finishes 142 = .ok (.return_, 1) ∧ True := dq_of (l := (0, .aload_n 0, 1) :: (1, .aload_n 0, 1) :: (2, .getfield 7, 3) :: (5, .bipush 6, 2) :: (7, .iaload, 1) :: (8, .invokevirtual 87, 3) :: (11, .istore_n 1, 1) :: (12, .aload_n 0, 1) :: (13, .getfield 7, 3) :: (16, .iconst 5, 1) :: (17, .iaload, 1) :: (18, .istore_n 2, 1) :: (19, .aload_n 0, 1) :: (20, .invokevirtual 84, 3) :: (23, .iload_n 2, 1) :: (24, .iconst 2, 1) :: (25, .if_icmp .ne 9, 3) :: (28, .aload_n 0, 1) :: (29, .iload_n 1, 1) :: (30, .invokevirtual 141, 3) :: (33, .return_, 1) :: (34, .aload_n 0, 1) :: (35, .getfield 7, 3) :: (38, .bipush 8, 2) :: (40, .dup2, 1) :: (41, .iaload, 1) :: (42, .iconst 1, 1) :: (43, .iadd, 1) :: (44, .iastore, 1) :: (45, .aload_n 0, 1) :: (46, .getfield 7, 3) :: (49, .bipush 14, 2) :: (51, .iaload, 1) :: (52, .ifCond .le 33, 3) :: (55, .aload_n 0, 1) :: (56, .getfield 7, 3) :: (59, .bipush 8, 2) :: (61, .iaload, 1) :: (62, .aload_n 0, 1) :: (63, .getfield 7, 3) :: (66, .bipush 14, 2) :: (68, .iaload, 1) :: (69, .irem, 1) :: (70, .ifCond .ne 15, 3) :: (73, .aload_n 0, 1) :: (74, .getfield 7, 3) :: (77, .bipush 18, 2) :: (79, .dup2, 1) :: (80, .iaload, 1) :: (81, .iconst 1, 1) :: (82, .iadd, 1) :: (83, .iastore, 1) :: (84, .return_, 1) :: (85, .aload_n 0, 1) :: (86, .getfield 7, 3) :: (89, .iconst 2, 1) :: (90, .dup2, 1) :: (91, .iaload, 1) :: (92, .iconst 1, 1) :: (93, .iadd, 1) :: (94, .iastore, 1) :: (95, .aload_n 0, 1) :: (96, .getfield 7, 3) :: (99, .bipush 17, 2) :: (101, .dup2, 1) :: (102, .iaload, 1) :: (103, .iconst 1, 1) :: (104, .iadd, 1) :: (105, .iastore, 1) :: (106, .aload_n 0, 1) :: (107, .getfield 7, 3) :: (110, .bipush 19, 2) :: (112, .dup2, 1) :: (113, .iaload, 1) :: (114, .aload_n 0, 1) :: (115, .iload_n 1, 1) :: (116, .invokevirtual 131, 3) :: (119, .iadd, 1) :: (120, .iastore, 1) :: (121, .aload_n 0, 1) :: (122, .getfield 7, 3) :: (125, .iload_n 1, 1) :: (126, .invokestatic 60, 3) :: (129, .bipush 8, 2) :: (131, .iadd, 1) :: (132, .dup2, 1) :: (133, .iaload, 1) :: (134, .iconst 1, 1) :: (135, .iadd, 1) :: (136, .iastore, 1) :: (137, .aload_n 0, 1) :: (138, .iload_n 1, 1) :: (139, .invokevirtual 124, 3) :: (142, .return_, 1) :: []) (by decide +kernel)
set_option maxRecDepth 100000 in
theorem D_X8_goesBy : decode cX8_goesBy 0 = .ok (.iload_n 1, 1) ∧ decode cX8_goesBy 1 = .ok (.ifCond .gt 13, 3) ∧ decode cX8_goesBy 4 = .ok (.aload_n 0, 1) ∧ decode cX8_goesBy 5 = .ok (.getfield 7, 3) ∧ decode cX8_goesBy 8 = .ok (.iconst 4, 1) ∧ decode cX8_goesBy 9 = .ok (.iaload, 1) ∧ decode cX8_goesBy 10 = .ok (.iload_n 2, 1) ∧ decode cX8_goesBy 11 = .ok (.if_icmp .le 7, 3) ∧ decode cX8_goesBy 14 = .ok (.iload_n 2, 1) ∧ decode cX8_goesBy 15 = .ok (.goto 9, 3) ∧ decode cX8_goesBy 18 = .ok (.aload_n 0, 1) ∧ decode cX8_goesBy 19 = .ok (.getfield 7, 3) ∧ decode cX8_goesBy 22 = .ok (.iconst 4, 1) ∧ decode cX8_goesBy 23 = .ok (.iaload, 1) ∧ decode cX8_goesBy 24 = .ok (.istore_n 3, 1) ∧ decode cX8_goesBy 25 = .ok (.aload_n 0, 1) ∧ decode cX8_goesBy 26 = .ok (.getfield 7, 3) ∧ decode cX8_goesBy 29 = .ok (.bipush 24, 2) ∧ decode cX8_goesBy 31 = .ok (.dup2, 1) ∧ decode cX8_goesBy 32 = .ok (.iaload, 1) ∧ decode cX8_goesBy 33 = .ok (.iload_n 3, 1) ∧ decode cX8_goesBy 34 = .ok (.iadd, 1) ∧ decode cX8_goesBy 35 = .ok (.iastore, 1) ∧ decode cX8_goesBy 36 = .ok (.iload_n 1, 1) ∧ decode cX8_goesBy 37 = .ok (.ifCond .le 16, 3) ∧ decode cX8_goesBy 40 = .ok (.aload_n 0, 1) ∧ decode cX8_goesBy 41 = .ok (.getfield 7, 3) ∧ decode cX8_goesBy 44 = .ok (.bipush 23, 2) ∧ decode cX8_goesBy 46 = .ok (.dup2, 1) ∧ decode cX8_goesBy 47 = .ok (.iaload, 1) ∧ decode cX8_goesBy 48 = .ok (.iload_n 3, 1) ∧ decode cX8_goesBy 49 = .ok (.iadd, 1) ∧ decode cX8_goesBy 50 = .ok (.iastore, 1) ∧ decode cX8_goesBy 51 = .ok (.iload_n 3, 1) ∧ decode cX8_goesBy 52 = .ok (.ireturn, 1) ∧ decode cX8_goesBy 53 = .ok (.aload_n 0, 1) ∧ decode cX8_goesBy 54 = .ok (.getfield 7, 3) ∧ decode cX8_goesBy 57 = .ok (.iconst 4, 1) ∧ decode cX8_goesBy 58 = .ok (.dup2, 1) ∧ decode cX8_goesBy 59 = .ok (.iaload, 1) ∧ decode cX8_goesBy 60 = .ok (.iload_n 3, 1) ∧ decode cX8_goesBy 61 = .ok (.isub, 1) ∧ decode cX8_goesBy 62 = .ok (.iastore, 1) ∧ decode cX8_goesBy 63 = .ok (.aload_n 0, 1) ∧ decode cX8_goesBy 64 = .ok (.getfield 7, 3) ∧ decode cX8_goesBy 67 = .ok (.iconst 4, 1) ∧ decode cX8_goesBy 68 = .ok (.iaload, 1) ∧ decode cX8_goesBy 69 = .ok (.ifCond .ne 7, 3) ∧ decode cX8_goesBy 72 = .ok (.aload_n 0, 1) ∧ decode cX8_goesBy 73 = .ok (.invokevirtual 147, 3) ∧ decode cX8_goesBy 76 = .ok (.iload_n 3, 1) ∧ decode cX8_goesBy 77 = .ok (.ireturn, 1) ∧ True := dq_of (l := (0, .iload_n 1, 1) :: (1, .ifCond .gt 13, 3) :: (4, .aload_n 0, 1) :: (5, .getfield 7, 3) :: (8, .iconst 4, 1) :: (9, .iaload, 1) :: (10, .iload_n 2, 1) :: (11, .if_icmp .le 7, 3) :: (14, .iload_n 2, 1) :: (15, .goto 9, 3) :: (18, .aload_n 0, 1) :: (19, .getfield 7, 3) :: (22, .iconst 4, 1) :: (23, .iaload, 1) :: (24, .istore_n 3, 1) :: (25, .aload_n 0, 1) :: (26, .getfield 7, 3) :: (29, .bipush 24, 2) :: (31, .dup2, 1) :: (32, .iaload, 1) :: (33, .iload_n 3, 1) :: (34, .iadd, 1) :: (35, .iastore, 1) :: (36, .iload_n 1, 1) :: (37, .ifCond .le 16, 3) :: (40, .aload_n 0, 1) :: (41, .getfield 7, 3) :: (44, .bipush 23, 2) :: (46, .dup2, 1) :: (47, .iaload, 1) :: (48, .iload_n 3, 1) :: (49, .iadd, 1) :: (50, .iastore, 1) :: (51, .iload_n 3, 1) :: (52, .ireturn, 1) :: (53, .aload_n 0, 1) :: (54, .getfield 7, 3) :: (57, .iconst 4, 1) :: (58, .dup2, 1) :: (59, .iaload, 1) :: (60, .iload_n 3, 1) :: (61, .isub, 1) :: (62, .iastore, 1) :: (63, .aload_n 0, 1) :: (64, .getfield 7, 3) :: (67, .iconst 4, 1) :: (68, .iaload, 1) :: (69, .ifCond .ne 7, 3) :: (72, .aload_n 0, 1) :: (73, .invokevirtual 147, 3) :: (76, .iload_n 3, 1) :: (77, .ireturn, 1) :: []) (by decide +kernel)
set_option maxRecDepth 100000 in
theorem D_X8_run : decode cX8_run 0 = .ok (.iload_n 1, 1) ∧ decode cX8_run 1 = .ok (.iconst 1, 1) ∧ decode cX8_run 2 = .ok (.sipush 5000, 3) ∧ decode cX8_run 5 = .ok (.invokestatic 32, 3) ∧ decode cX8_run 8 = .ok (.ifCond .ne 5, 3) ∧ decode cX8_run 11 = .ok (.iconst (-1), 1) ∧ decode cX8_run 12 = .ok (.ireturn, 1) ∧ decode cX8_run 13 = .ok (.aload_n 0, 1) ∧ decode cX8_run 14 = .ok (.getfield 7, 3) ∧ decode cX8_run 17 = .ok (.bipush 24, 2) ∧ decode cX8_run 19 = .ok (.iaload, 1) ∧ decode cX8_run 20 = .ok (.iload_n 1, 1) ∧ decode cX8_run 21 = .ok (.iadd, 1) ∧ decode cX8_run 22 = .ok (.ldc 150, 2) ∧ decode cX8_run 24 = .ok (.if_icmp .le 6, 3) ∧ decode cX8_run 27 = .ok (.bipush (-3), 2) ∧ decode cX8_run 29 = .ok (.ireturn, 1) ∧ decode cX8_run 30 = .ok (.aload_n 0, 1) ∧ decode cX8_run 31 = .ok (.invokevirtual 40, 3) ∧ decode cX8_run 34 = .ok (.aload_n 0, 1) ∧ decode cX8_run 35 = .ok (.getfield 7, 3) ∧ decode cX8_run 38 = .ok (.bipush 17, 2) ∧ decode cX8_run 40 = .ok (.iaload, 1) ∧ decode cX8_run 41 = .ok (.istore_n 2, 1) ∧ decode cX8_run 42 = .ok (.iload_n 1, 1) ∧ decode cX8_run 43 = .ok (.istore_n 3, 1) ∧ decode cX8_run 44 = .ok (.iload_n 3, 1) ∧ decode cX8_run 45 = .ok (.ifCond .le 31, 3) ∧ decode cX8_run 48 = .ok (.iload_n 3, 1) ∧ decode cX8_run 49 = .ok (.aload_n 0, 1) ∧ decode cX8_run 50 = .ok (.aload_n 0, 1) ∧ decode cX8_run 51 = .ok (.getfield 7, 3) ∧ decode cX8_run 54 = .ok (.iconst 5, 1) ∧ decode cX8_run 55 = .ok (.iaload, 1) ∧ decode cX8_run 56 = .ok (.ifCond .ne 10, 3) ∧ decode cX8_run 59 = .ok (.aload_n 0, 1) ∧ decode cX8_run 60 = .ok (.invokevirtual 151, 3) ∧ decode cX8_run 63 = .ok (.goto 4, 3) ∧ decode cX8_run 66 = .ok (.iconst 0, 1) ∧ decode cX8_run 67 = .ok (.iload_n 3, 1) ∧ decode cX8_run 68 = .ok (.invokevirtual 154, 3) ∧ decode cX8_run 71 = .ok (.isub, 1) ∧ decode cX8_run 72 = .ok (.istore_n 3, 1) ∧ decode cX8_run 73 = .ok (.goto (-29), 3) ∧ decode cX8_run 76 = .ok (.aload_n 0, 1) ∧ decode cX8_run 77 = .ok (.getfield 7, 3) ∧ decode cX8_run 80 = .ok (.bipush 17, 2) ∧ decode cX8_run 82 = .ok (.iaload, 1) ∧ decode cX8_run 83 = .ok (.iload_n 2, 1) ∧ decode cX8_run 84 = .ok (.isub, 1) ∧ decode cX8_run 85 = .ok (.ireturn, 1) ∧ True := dq_of (l := (0, .iload_n 1, 1) :: (1, .iconst 1, 1) :: (2, .sipush 5000, 3) :: (5, .invokestatic 32, 3) :: (8, .ifCond .ne 5, 3) :: (11, .iconst (-1), 1) :: (12, .ireturn, 1) :: (13, .aload_n 0, 1) :: (14, .getfield 7, 3) :: (17, .bipush 24, 2) :: (19, .iaload, 1) :: (20, .iload_n 1, 1) :: (21, .iadd, 1) :: (22, .ldc 150, 2) :: (24, .if_icmp .le 6, 3) :: (27, .bipush (-3), 2) :: (29, .ireturn, 1) :: (30, .aload_n 0, 1) :: (31, .invokevirtual 40, 3) :: (34, .aload_n 0, 1) :: (35, .getfield 7, 3) :: (38, .bipush 17, 2) :: (40, .iaload, 1) :: (41, .istore_n 2, 1) :: (42, .iload_n 1, 1) :: (43, .istore_n 3, 1) :: (44, .iload_n 3, 1) :: (45, .ifCond .le 31, 3) :: (48, .iload_n 3, 1) :: (49, .aload_n 0, 1) :: (50, .aload_n 0, 1) :: (51, .getfield 7, 3) :: (54, .iconst 5, 1) :: (55, .iaload, 1) :: (56, .ifCond .ne 10, 3) :: (59, .aload_n 0, 1) :: (60, .invokevirtual 151, 3) :: (63, .goto 4, 3) :: (66, .iconst 0, 1) :: (67, .iload_n 3, 1) :: (68, .invokevirtual 154, 3) :: (71, .isub, 1) :: (72, .istore_n 3, 1) :: (73, .goto (-29), 3) :: (76, .aload_n 0, 1) :: (77, .getfield 7, 3) :: (80, .bipush 17, 2) :: (82, .iaload, 1) :: (83, .iload_n 2, 1) :: (84, .isub, 1) :: (85, .ireturn, 1) :: []) (by decide +kernel)
set_option maxRecDepth 100000 in
theorem D_X8_keeps : decode cX8_keeps 0 = .ok (.iconst 0, 1) ∧ decode cX8_keeps 1 = .ok (.istore_n 1, 1) ∧ decode cX8_keeps 2 = .ok (.iload_n 1, 1) ∧ decode cX8_keeps 3 = .ok (.sipush 185, 3) ∧ decode cX8_keeps 6 = .ok (.if_icmp .ge 21, 3) ∧ decode cX8_keeps 9 = .ok (.aload_n 0, 1) ∧ decode cX8_keeps 10 = .ok (.getfield 16, 3) ∧ decode cX8_keeps 13 = .ok (.iload_n 1, 1) ∧ decode cX8_keeps 14 = .ok (.aload_n 0, 1) ∧ decode cX8_keeps 15 = .ok (.getfield 7, 3) ∧ decode cX8_keeps 18 = .ok (.iload_n 1, 1) ∧ decode cX8_keeps 19 = .ok (.iaload, 1) ∧ decode cX8_keeps 20 = .ok (.iastore, 1) ∧ decode cX8_keeps 21 = .ok (.iinc 1 1, 3) ∧ decode cX8_keeps 24 = .ok (.goto (-22), 3) ∧ decode cX8_keeps 27 = .ok (.return_, 1) ∧ True := dq_of (l := (0, .iconst 0, 1) :: (1, .istore_n 1, 1) :: (2, .iload_n 1, 1) :: (3, .sipush 185, 3) :: (6, .if_icmp .ge 21, 3) :: (9, .aload_n 0, 1) :: (10, .getfield 16, 3) :: (13, .iload_n 1, 1) :: (14, .aload_n 0, 1) :: (15, .getfield 7, 3) :: (18, .iload_n 1, 1) :: (19, .iaload, 1) :: (20, .iastore, 1) :: (21, .iinc 1 1, 3) :: (24, .goto (-22), 3) :: (27, .return_, 1) :: []) (by decide +kernel)
set_option maxRecDepth 100000 in
theorem D_X8_takesBack : decode cX8_takesBack 0 = .ok (.iconst 0, 1) ∧ decode cX8_takesBack 1 = .ok (.istore_n 1, 1) ∧ decode cX8_takesBack 2 = .ok (.iload_n 1, 1) ∧ decode cX8_takesBack 3 = .ok (.sipush 185, 3) ∧ decode cX8_takesBack 6 = .ok (.if_icmp .ge 21, 3) ∧ decode cX8_takesBack 9 = .ok (.aload_n 0, 1) ∧ decode cX8_takesBack 10 = .ok (.getfield 7, 3) ∧ decode cX8_takesBack 13 = .ok (.iload_n 1, 1) ∧ decode cX8_takesBack 14 = .ok (.aload_n 0, 1) ∧ decode cX8_takesBack 15 = .ok (.getfield 16, 3) ∧ decode cX8_takesBack 18 = .ok (.iload_n 1, 1) ∧ decode cX8_takesBack 19 = .ok (.iaload, 1) ∧ decode cX8_takesBack 20 = .ok (.iastore, 1) ∧ decode cX8_takesBack 21 = .ok (.iinc 1 1, 3) ∧ decode cX8_takesBack 24 = .ok (.goto (-22), 3) ∧ decode cX8_takesBack 27 = .ok (.return_, 1) ∧ True := dq_of (l := (0, .iconst 0, 1) :: (1, .istore_n 1, 1) :: (2, .iload_n 1, 1) :: (3, .sipush 185, 3) :: (6, .if_icmp .ge 21, 3) :: (9, .aload_n 0, 1) :: (10, .getfield 7, 3) :: (13, .iload_n 1, 1) :: (14, .aload_n 0, 1) :: (15, .getfield 16, 3) :: (18, .iload_n 1, 1) :: (19, .iaload, 1) :: (20, .iastore, 1) :: (21, .iinc 1 1, 3) :: (24, .goto (-22), 3) :: (27, .return_, 1) :: []) (by decide +kernel)
set_option maxRecDepth 100000 in
theorem D_X8_stop : decode cX8_stop 0 = .ok (.aload_n 0, 1) ∧ decode cX8_stop 1 = .ok (.getfield 7, 3) ∧ decode cX8_stop 4 = .ok (.iconst 5, 1) ∧ decode cX8_stop 5 = .ok (.iaload, 1) ∧ decode cX8_stop 6 = .ok (.ifCond .le 5, 3) ∧ decode cX8_stop 9 = .ok (.iconst 0, 1) ∧ decode cX8_stop 10 = .ok (.ireturn, 1) ∧ decode cX8_stop 11 = .ok (.aload_n 0, 1) ∧ decode cX8_stop 12 = .ok (.invokevirtual 157, 3) ∧ decode cX8_stop 15 = .ok (.aload_n 0, 1) ∧ decode cX8_stop 16 = .ok (.invokevirtual 151, 3) ∧ decode cX8_stop 19 = .ok (.istore_n 1, 1) ∧ decode cX8_stop 20 = .ok (.aload_n 0, 1) ∧ decode cX8_stop 21 = .ok (.invokevirtual 160, 3) ∧ decode cX8_stop 24 = .ok (.iload_n 1, 1) ∧ decode cX8_stop 25 = .ok (.ireturn, 1) ∧ True := dq_of (l := (0, .aload_n 0, 1) :: (1, .getfield 7, 3) :: (4, .iconst 5, 1) :: (5, .iaload, 1) :: (6, .ifCond .le 5, 3) :: (9, .iconst 0, 1) :: (10, .ireturn, 1) :: (11, .aload_n 0, 1) :: (12, .invokevirtual 157, 3) :: (15, .aload_n 0, 1) :: (16, .invokevirtual 151, 3) :: (19, .istore_n 1, 1) :: (20, .aload_n 0, 1) :: (21, .invokevirtual 160, 3) :: (24, .iload_n 1, 1) :: (25, .ireturn, 1) :: []) (by decide +kernel)
set_option maxRecDepth 100000 in
theorem D_X8_count : decode cX8_count 0 = .ok (.iload_n 1, 1) ∧ decode cX8_count 1 = .ok (.tableswitch 156 0 16 #[83, 90, 95, 102, 109, 116, 123, 130, 156, 156, 156, 156, 156, 156, 138, 146, 151], 83) ∧ decode cX8_count 84 = .ok (.aload_n 0, 1) ∧ decode cX8_count 85 = .ok (.getfield 7, 3) ∧ decode cX8_count 88 = .ok (.iconst 0, 1) ∧ decode cX8_count 89 = .ok (.iaload, 1) ∧ decode cX8_count 90 = .ok (.ireturn, 1) ∧ decode cX8_count 91 = .ok (.aload_n 0, 1) ∧ decode cX8_count 92 = .ok (.invokevirtual 163, 3) ∧ decode cX8_count 95 = .ok (.ireturn, 1) ∧ decode cX8_count 96 = .ok (.aload_n 0, 1) ∧ decode cX8_count 97 = .ok (.getfield 7, 3) ∧ decode cX8_count 100 = .ok (.iconst 1, 1) ∧ decode cX8_count 101 = .ok (.iaload, 1) ∧ decode cX8_count 102 = .ok (.ireturn, 1) ∧ decode cX8_count 103 = .ok (.aload_n 0, 1) ∧ decode cX8_count 104 = .ok (.getfield 7, 3) ∧ decode cX8_count 107 = .ok (.iconst 2, 1) ∧ decode cX8_count 108 = .ok (.iaload, 1) ∧ decode cX8_count 109 = .ok (.ireturn, 1) ∧ decode cX8_count 110 = .ok (.aload_n 0, 1) ∧ decode cX8_count 111 = .ok (.getfield 7, 3) ∧ decode cX8_count 114 = .ok (.iconst 3, 1) ∧ decode cX8_count 115 = .ok (.iaload, 1) ∧ decode cX8_count 116 = .ok (.ireturn, 1) ∧ decode cX8_count 117 = .ok (.aload_n 0, 1) ∧ decode cX8_count 118 = .ok (.getfield 7, 3) ∧ decode cX8_count 121 = .ok (.iconst 4, 1) ∧ decode cX8_count 122 = .ok (.iaload, 1) ∧ decode cX8_count 123 = .ok (.ireturn, 1) ∧ decode cX8_count 124 = .ok (.aload_n 0, 1) ∧ decode cX8_count 125 = .ok (.getfield 7, 3) ∧ decode cX8_count 128 = .ok (.iconst 5, 1) ∧ decode cX8_count 129 = .ok (.iaload, 1) ∧ decode cX8_count 130 = .ok (.ireturn, 1) ∧ decode cX8_count 131 = .ok (.aload_n 0, 1) ∧ decode cX8_count 132 = .ok (.getfield 7, 3) ∧ decode cX8_count 135 = .ok (.bipush 6, 2) ∧ decode cX8_count 137 = .ok (.iaload, 1) ∧ decode cX8_count 138 = .ok (.ireturn, 1) ∧ decode cX8_count 139 = .ok (.aload_n 0, 1) ∧ decode cX8_count 140 = .ok (.getfield 7, 3) ∧ decode cX8_count 143 = .ok (.bipush 9, 2) ∧ decode cX8_count 145 = .ok (.iaload, 1) ∧ decode cX8_count 146 = .ok (.ireturn, 1) ∧ decode cX8_count 147 = .ok (.aload_n 0, 1) ∧ decode cX8_count 148 = .ok (.getfield 29, 3) ∧ decode cX8_count 151 = .ok (.ireturn, 1) ∧ decode cX8_count 152 = .ok (.aload_n 0, 1) ∧ decode cX8_count 153 = .ok (.getfield 166, 3) ∧ decode cX8_count 156 = .ok (.ireturn, 1) ∧ decode cX8_count 157 = .ok (.iload_n 1, 1) ∧ decode cX8_count 158 = .ok (.bipush 8, 2) ∧ decode cX8_count 160 = .ok (.bipush 13, 2) ∧ decode cX8_count 162 = .ok (.invokestatic 32, 3) ∧ decode cX8_count 165 = .ok (.ifCond .eq 18, 3) ∧ decode cX8_count 168 = .ok (.aload_n 0, 1) ∧ decode cX8_count 169 = .ok (.getfield 7, 3) ∧ decode cX8_count 172 = .ok (.bipush 10, 2) ∧ decode cX8_count 174 = .ok (.iload_n 1, 1) ∧ decode cX8_count 175 = .ok (.iadd, 1) ∧ decode cX8_count 176 = .ok (.bipush 8, 2) ∧ decode cX8_count 178 = .ok (.isub, 1) ∧ decode cX8_count 179 = .ok (.iaload, 1) ∧ decode cX8_count 180 = .ok (.goto 4, 3) ∧ decode cX8_count 183 = .ok (.iconst (-1), 1) ∧ decode cX8_count 184 = .ok (.ireturn, 1) ∧ True := dq_of (l := (0, .iload_n 1, 1) :: (1, .tableswitch 156 0 16 #[83, 90, 95, 102, 109, 116, 123, 130, 156, 156, 156, 156, 156, 156, 138, 146, 151], 83) :: (84, .aload_n 0, 1) :: (85, .getfield 7, 3) :: (88, .iconst 0, 1) :: (89, .iaload, 1) :: (90, .ireturn, 1) :: (91, .aload_n 0, 1) :: (92, .invokevirtual 163, 3) :: (95, .ireturn, 1) :: (96, .aload_n 0, 1) :: (97, .getfield 7, 3) :: (100, .iconst 1, 1) :: (101, .iaload, 1) :: (102, .ireturn, 1) :: (103, .aload_n 0, 1) :: (104, .getfield 7, 3) :: (107, .iconst 2, 1) :: (108, .iaload, 1) :: (109, .ireturn, 1) :: (110, .aload_n 0, 1) :: (111, .getfield 7, 3) :: (114, .iconst 3, 1) :: (115, .iaload, 1) :: (116, .ireturn, 1) :: (117, .aload_n 0, 1) :: (118, .getfield 7, 3) :: (121, .iconst 4, 1) :: (122, .iaload, 1) :: (123, .ireturn, 1) :: (124, .aload_n 0, 1) :: (125, .getfield 7, 3) :: (128, .iconst 5, 1) :: (129, .iaload, 1) :: (130, .ireturn, 1) :: (131, .aload_n 0, 1) :: (132, .getfield 7, 3) :: (135, .bipush 6, 2) :: (137, .iaload, 1) :: (138, .ireturn, 1) :: (139, .aload_n 0, 1) :: (140, .getfield 7, 3) :: (143, .bipush 9, 2) :: (145, .iaload, 1) :: (146, .ireturn, 1) :: (147, .aload_n 0, 1) :: (148, .getfield 29, 3) :: (151, .ireturn, 1) :: (152, .aload_n 0, 1) :: (153, .getfield 166, 3) :: (156, .ireturn, 1) :: (157, .iload_n 1, 1) :: (158, .bipush 8, 2) :: (160, .bipush 13, 2) :: (162, .invokestatic 32, 3) :: (165, .ifCond .eq 18, 3) :: (168, .aload_n 0, 1) :: (169, .getfield 7, 3) :: (172, .bipush 10, 2) :: (174, .iload_n 1, 1) :: (175, .iadd, 1) :: (176, .bipush 8, 2) :: (178, .isub, 1) :: (179, .iaload, 1) :: (180, .goto 4, 3) :: (183, .iconst (-1), 1) :: (184, .ireturn, 1) :: []) (by decide +kernel)
set_option maxRecDepth 100000 in
theorem D_X8_heldOnes : decode cX8_heldOnes 0 = .ok (.iconst 0, 1) ∧ decode cX8_heldOnes 1 = .ok (.istore_n 1, 1) ∧ decode cX8_heldOnes 2 = .ok (.iconst 0, 1) ∧ decode cX8_heldOnes 3 = .ok (.istore_n 2, 1) ∧ decode cX8_heldOnes 4 = .ok (.iload_n 2, 1) ∧ decode cX8_heldOnes 5 = .ok (.aload_n 0, 1) ∧ decode cX8_heldOnes 6 = .ok (.getfield 7, 3) ∧ decode cX8_heldOnes 9 = .ok (.iconst 0, 1) ∧ decode cX8_heldOnes 10 = .ok (.iaload, 1) ∧ decode cX8_heldOnes 11 = .ok (.if_icmp .ge 19, 3) ∧ decode cX8_heldOnes 14 = .ok (.iload_n 1, 1) ∧ decode cX8_heldOnes 15 = .ok (.aload_n 0, 1) ∧ decode cX8_heldOnes 16 = .ok (.iload_n 2, 1) ∧ decode cX8_heldOnes 17 = .ok (.bipush 7, 2) ∧ decode cX8_heldOnes 19 = .ok (.invokevirtual 64, 3) ∧ decode cX8_heldOnes 22 = .ok (.iadd, 1) ∧ decode cX8_heldOnes 23 = .ok (.istore_n 1, 1) ∧ decode cX8_heldOnes 24 = .ok (.iinc 2 1, 3) ∧ decode cX8_heldOnes 27 = .ok (.goto (-23), 3) ∧ decode cX8_heldOnes 30 = .ok (.iload_n 1, 1) ∧ decode cX8_heldOnes 31 = .ok (.ireturn, 1) ∧ True := dq_of (l := (0, .iconst 0, 1) :: (1, .istore_n 1, 1) :: (2, .iconst 0, 1) :: (3, .istore_n 2, 1) :: (4, .iload_n 2, 1) :: (5, .aload_n 0, 1) :: (6, .getfield 7, 3) :: (9, .iconst 0, 1) :: (10, .iaload, 1) :: (11, .if_icmp .ge 19, 3) :: (14, .iload_n 1, 1) :: (15, .aload_n 0, 1) :: (16, .iload_n 2, 1) :: (17, .bipush 7, 2) :: (19, .invokevirtual 64, 3) :: (22, .iadd, 1) :: (23, .istore_n 1, 1) :: (24, .iinc 2 1, 3) :: (27, .goto (-23), 3) :: (30, .iload_n 1, 1) :: (31, .ireturn, 1) :: []) (by decide +kernel)
set_option maxRecDepth 100000 in
theorem D_X8_account : decode cX8_account 0 = .ok (.iload_n 1, 1) ∧ decode cX8_account 1 = .ok (.iconst 0, 1) ∧ decode cX8_account 2 = .ok (.bipush 8, 2) ∧ decode cX8_account 4 = .ok (.invokestatic 32, 3) ∧ decode cX8_account 7 = .ok (.ifCond .eq 15, 3) ∧ decode cX8_account 10 = .ok (.aload_n 0, 1) ∧ decode cX8_account 11 = .ok (.getfield 7, 3) ∧ decode cX8_account 14 = .ok (.bipush 16, 2) ∧ decode cX8_account 16 = .ok (.iload_n 1, 1) ∧ decode cX8_account 17 = .ok (.iadd, 1) ∧ decode cX8_account 18 = .ok (.iaload, 1) ∧ decode cX8_account 19 = .ok (.goto 4, 3) ∧ decode cX8_account 22 = .ok (.iconst (-1), 1) ∧ decode cX8_account 23 = .ok (.ireturn, 1) ∧ True := dq_of (l := (0, .iload_n 1, 1) :: (1, .iconst 0, 1) :: (2, .bipush 8, 2) :: (4, .invokestatic 32, 3) :: (7, .ifCond .eq 15, 3) :: (10, .aload_n 0, 1) :: (11, .getfield 7, 3) :: (14, .bipush 16, 2) :: (16, .iload_n 1, 1) :: (17, .iadd, 1) :: (18, .iaload, 1) :: (19, .goto 4, 3) :: (22, .iconst (-1), 1) :: (23, .ireturn, 1) :: []) (by decide +kernel)
set_option maxRecDepth 100000 in
theorem D_X8_paper : decode cX8_paper 0 = .ok (.iload_n 1, 1) ∧ decode cX8_paper 1 = .ok (.ifCond .lt 12, 3) ∧ decode cX8_paper 4 = .ok (.iload_n 2, 1) ∧ decode cX8_paper 5 = .ok (.iconst 0, 1) ∧ decode cX8_paper 6 = .ok (.iconst 2, 1) ∧ decode cX8_paper 7 = .ok (.invokestatic 32, 3) ∧ decode cX8_paper 10 = .ok (.ifCond .ne 5, 3) ∧ decode cX8_paper 13 = .ok (.iconst (-1), 1) ∧ decode cX8_paper 14 = .ok (.ireturn, 1) ∧ decode cX8_paper 15 = .ok (.iload_n 1, 1) ∧ decode cX8_paper 16 = .ok (.aload_n 0, 1) ∧ decode cX8_paper 17 = .ok (.getfield 7, 3) ∧ decode cX8_paper 20 = .ok (.bipush 9, 2) ∧ decode cX8_paper 22 = .ok (.iaload, 1) ∧ decode cX8_paper 23 = .ok (.if_icmp .lt 8, 3) ∧ decode cX8_paper 26 = .ok (.bipush (-4), 2) ∧ decode cX8_paper 28 = .ok (.goto 16, 3) ∧ decode cX8_paper 31 = .ok (.aload_n 0, 1) ∧ decode cX8_paper 32 = .ok (.getfield 7, 3) ∧ decode cX8_paper 35 = .ok (.bipush 37, 2) ∧ decode cX8_paper 37 = .ok (.iconst 3, 1) ∧ decode cX8_paper 38 = .ok (.iload_n 1, 1) ∧ decode cX8_paper 39 = .ok (.imul, 1) ∧ decode cX8_paper 40 = .ok (.iadd, 1) ∧ decode cX8_paper 41 = .ok (.iload_n 2, 1) ∧ decode cX8_paper 42 = .ok (.iadd, 1) ∧ decode cX8_paper 43 = .ok (.iaload, 1) ∧ decode cX8_paper 44 = .ok (.ireturn, 1) ∧ True := dq_of (l := (0, .iload_n 1, 1) :: (1, .ifCond .lt 12, 3) :: (4, .iload_n 2, 1) :: (5, .iconst 0, 1) :: (6, .iconst 2, 1) :: (7, .invokestatic 32, 3) :: (10, .ifCond .ne 5, 3) :: (13, .iconst (-1), 1) :: (14, .ireturn, 1) :: (15, .iload_n 1, 1) :: (16, .aload_n 0, 1) :: (17, .getfield 7, 3) :: (20, .bipush 9, 2) :: (22, .iaload, 1) :: (23, .if_icmp .lt 8, 3) :: (26, .bipush (-4), 2) :: (28, .goto 16, 3) :: (31, .aload_n 0, 1) :: (32, .getfield 7, 3) :: (35, .bipush 37, 2) :: (37, .iconst 3, 1) :: (38, .iload_n 1, 1) :: (39, .imul, 1) :: (40, .iadd, 1) :: (41, .iload_n 2, 1) :: (42, .iadd, 1) :: (43, .iaload, 1) :: (44, .ireturn, 1) :: []) (by decide +kernel)
set_option maxRecDepth 100000 in
theorem D_X8_lacking : decode cX8_lacking 0 = .ok (.iload_n 1, 1) ∧ decode cX8_lacking 1 = .ok (.iload_n 2, 1) ∧ decode cX8_lacking 2 = .ok (.invokestatic 43, 3) ∧ decode cX8_lacking 5 = .ok (.ifCond .ne 5, 3) ∧ decode cX8_lacking 8 = .ok (.iconst (-1), 1) ∧ decode cX8_lacking 9 = .ok (.ireturn, 1) ∧ decode cX8_lacking 10 = .ok (.aload_n 0, 1) ∧ decode cX8_lacking 11 = .ok (.iload_n 1, 1) ∧ decode cX8_lacking 12 = .ok (.iload_n 2, 1) ∧ decode cX8_lacking 13 = .ok (.invokevirtual 50, 3) ∧ decode cX8_lacking 16 = .ok (.ineg, 1) ∧ decode cX8_lacking 17 = .ok (.istore_n 3, 1) ∧ decode cX8_lacking 18 = .ok (.iconst 0, 1) ∧ decode cX8_lacking 19 = .ok (.istore 4, 2) ∧ decode cX8_lacking 21 = .ok (.iload 4, 2) ∧ decode cX8_lacking 23 = .ok (.aload_n 0, 1) ∧ decode cX8_lacking 24 = .ok (.getfield 7, 3) ∧ decode cX8_lacking 27 = .ok (.iconst 0, 1) ∧ decode cX8_lacking 28 = .ok (.iaload, 1) ∧ decode cX8_lacking 29 = .ok (.if_icmp .ge 102, 3) ∧ decode cX8_lacking 32 = .ok (.aload_n 0, 1) ∧ decode cX8_lacking 33 = .ok (.iload 4, 2) ∧ decode cX8_lacking 35 = .ok (.iconst 3, 1) ∧ decode cX8_lacking 36 = .ok (.invokevirtual 64, 3) ∧ decode cX8_lacking 39 = .ok (.iload_n 1, 1) ∧ decode cX8_lacking 40 = .ok (.if_icmp .ne 18, 3) ∧ decode cX8_lacking 43 = .ok (.aload_n 0, 1) ∧ decode cX8_lacking 44 = .ok (.iload 4, 2) ∧ decode cX8_lacking 46 = .ok (.iconst 4, 1) ∧ decode cX8_lacking 47 = .ok (.invokevirtual 64, 3) ∧ decode cX8_lacking 50 = .ok (.iload_n 2, 1) ∧ decode cX8_lacking 51 = .ok (.if_icmp .ne 7, 3) ∧ decode cX8_lacking 54 = .ok (.iconst 1, 1) ∧ decode cX8_lacking 55 = .ok (.goto 4, 3) ∧ decode cX8_lacking 58 = .ok (.iconst 0, 1) ∧ decode cX8_lacking 59 = .ok (.istore 5, 2) ∧ decode cX8_lacking 61 = .ok (.aload_n 0, 1) ∧ decode cX8_lacking 62 = .ok (.getfield 7, 3) ∧ decode cX8_lacking 65 = .ok (.iconst 5, 1) ∧ decode cX8_lacking 66 = .ok (.iaload, 1) ∧ decode cX8_lacking 67 = .ok (.iconst 1, 1) ∧ decode cX8_lacking 68 = .ok (.if_icmp .ne 24, 3) ∧ decode cX8_lacking 71 = .ok (.aload_n 0, 1) ∧ decode cX8_lacking 72 = .ok (.getfield 7, 3) ∧ decode cX8_lacking 75 = .ok (.bipush 6, 2) ∧ decode cX8_lacking 77 = .ok (.iaload, 1) ∧ decode cX8_lacking 78 = .ok (.aload_n 0, 1) ∧ decode cX8_lacking 79 = .ok (.iload 4, 2) ∧ decode cX8_lacking 81 = .ok (.iconst 0, 1) ∧ decode cX8_lacking 82 = .ok (.invokevirtual 64, 3) ∧ decode cX8_lacking 85 = .ok (.if_icmp .ne 7, 3) ∧ decode cX8_lacking 88 = .ok (.iconst 1, 1) ∧ decode cX8_lacking 89 = .ok (.goto 4, 3) ∧ decode cX8_lacking 92 = .ok (.iconst 0, 1) ∧ decode cX8_lacking 93 = .ok (.istore 6, 2) ∧ decode cX8_lacking 95 = .ok (.iload_n 3, 1) ∧ decode cX8_lacking 96 = .ok (.iload 5, 2) ∧ decode cX8_lacking 98 = .ok (.ifCond .eq 24, 3) ∧ decode cX8_lacking 101 = .ok (.aload_n 0, 1) ∧ decode cX8_lacking 102 = .ok (.iload 4, 2) ∧ decode cX8_lacking 104 = .ok (.invokevirtual 103, 3) ∧ decode cX8_lacking 107 = .ok (.aload_n 0, 1) ∧ decode cX8_lacking 108 = .ok (.iload 4, 2) ∧ decode cX8_lacking 110 = .ok (.bipush 8, 2) ∧ decode cX8_lacking 112 = .ok (.invokevirtual 64, 3) ∧ decode cX8_lacking 115 = .ok (.isub, 1) ∧ decode cX8_lacking 116 = .ok (.iload 6, 2) ∧ decode cX8_lacking 118 = .ok (.isub, 1) ∧ decode cX8_lacking 119 = .ok (.goto 4, 3) ∧ decode cX8_lacking 122 = .ok (.iconst 0, 1) ∧ decode cX8_lacking 123 = .ok (.iadd, 1) ∧ decode cX8_lacking 124 = .ok (.istore_n 3, 1) ∧ decode cX8_lacking 125 = .ok (.iinc 4 1, 3) ∧ decode cX8_lacking 128 = .ok (.goto (-107), 3) ∧ decode cX8_lacking 131 = .ok (.iload_n 3, 1) ∧ decode cX8_lacking 132 = .ok (.ifCond .ge 7, 3) ∧ decode cX8_lacking 135 = .ok (.iconst 0, 1) ∧ decode cX8_lacking 136 = .ok (.goto 4, 3) ∧ decode cX8_lacking 139 = .ok (.iload_n 3, 1) ∧ decode cX8_lacking 140 = .ok (.ireturn, 1) ∧ True := dq_of (l := (0, .iload_n 1, 1) :: (1, .iload_n 2, 1) :: (2, .invokestatic 43, 3) :: (5, .ifCond .ne 5, 3) :: (8, .iconst (-1), 1) :: (9, .ireturn, 1) :: (10, .aload_n 0, 1) :: (11, .iload_n 1, 1) :: (12, .iload_n 2, 1) :: (13, .invokevirtual 50, 3) :: (16, .ineg, 1) :: (17, .istore_n 3, 1) :: (18, .iconst 0, 1) :: (19, .istore 4, 2) :: (21, .iload 4, 2) :: (23, .aload_n 0, 1) :: (24, .getfield 7, 3) :: (27, .iconst 0, 1) :: (28, .iaload, 1) :: (29, .if_icmp .ge 102, 3) :: (32, .aload_n 0, 1) :: (33, .iload 4, 2) :: (35, .iconst 3, 1) :: (36, .invokevirtual 64, 3) :: (39, .iload_n 1, 1) :: (40, .if_icmp .ne 18, 3) :: (43, .aload_n 0, 1) :: (44, .iload 4, 2) :: (46, .iconst 4, 1) :: (47, .invokevirtual 64, 3) :: (50, .iload_n 2, 1) :: (51, .if_icmp .ne 7, 3) :: (54, .iconst 1, 1) :: (55, .goto 4, 3) :: (58, .iconst 0, 1) :: (59, .istore 5, 2) :: (61, .aload_n 0, 1) :: (62, .getfield 7, 3) :: (65, .iconst 5, 1) :: (66, .iaload, 1) :: (67, .iconst 1, 1) :: (68, .if_icmp .ne 24, 3) :: (71, .aload_n 0, 1) :: (72, .getfield 7, 3) :: (75, .bipush 6, 2) :: (77, .iaload, 1) :: (78, .aload_n 0, 1) :: (79, .iload 4, 2) :: (81, .iconst 0, 1) :: (82, .invokevirtual 64, 3) :: (85, .if_icmp .ne 7, 3) :: (88, .iconst 1, 1) :: (89, .goto 4, 3) :: (92, .iconst 0, 1) :: (93, .istore 6, 2) :: (95, .iload_n 3, 1) :: (96, .iload 5, 2) :: (98, .ifCond .eq 24, 3) :: (101, .aload_n 0, 1) :: (102, .iload 4, 2) :: (104, .invokevirtual 103, 3) :: (107, .aload_n 0, 1) :: (108, .iload 4, 2) :: (110, .bipush 8, 2) :: (112, .invokevirtual 64, 3) :: (115, .isub, 1) :: (116, .iload 6, 2) :: (118, .isub, 1) :: (119, .goto 4, 3) :: (122, .iconst 0, 1) :: (123, .iadd, 1) :: (124, .istore_n 3, 1) :: (125, .iinc 4 1, 3) :: (128, .goto (-107), 3) :: (131, .iload_n 3, 1) :: (132, .ifCond .ge 7, 3) :: (135, .iconst 0, 1) :: (136, .goto 4, 3) :: (139, .iload_n 3, 1) :: (140, .ireturn, 1) :: []) (by decide +kernel)
set_option maxRecDepth 100000 in
theorem D_X8_ticksTo : decode cX8_ticksTo 0 = .ok (.iload_n 1, 1) ∧ decode cX8_ticksTo 1 = .ok (.ifCond .ge 5, 3) ∧ decode cX8_ticksTo 4 = .ok (.iconst (-1), 1) ∧ decode cX8_ticksTo 5 = .ok (.ireturn, 1) ∧ decode cX8_ticksTo 6 = .ok (.aload_n 0, 1) ∧ decode cX8_ticksTo 7 = .ok (.iload_n 1, 1) ∧ decode cX8_ticksTo 8 = .ok (.invokevirtual 87, 3) ∧ decode cX8_ticksTo 11 = .ok (.ifCond .ge 6, 3) ∧ decode cX8_ticksTo 14 = .ok (.bipush (-4), 2) ∧ decode cX8_ticksTo 16 = .ok (.ireturn, 1) ∧ decode cX8_ticksTo 17 = .ok (.aload_n 0, 1) ∧ decode cX8_ticksTo 18 = .ok (.invokevirtual 157, 3) ∧ decode cX8_ticksTo 21 = .ok (.iconst 0, 1) ∧ decode cX8_ticksTo 22 = .ok (.istore_n 2, 1) ∧ decode cX8_ticksTo 23 = .ok (.iload_n 2, 1) ∧ decode cX8_ticksTo 24 = .ok (.sipush 20000, 3) ∧ decode cX8_ticksTo 27 = .ok (.if_icmp .ge 57, 3) ∧ decode cX8_ticksTo 30 = .ok (.aload_n 0, 1) ∧ decode cX8_ticksTo 31 = .ok (.iload_n 1, 1) ∧ decode cX8_ticksTo 32 = .ok (.invokevirtual 87, 3) ∧ decode cX8_ticksTo 35 = .ok (.ifCond .lt 49, 3) ∧ decode cX8_ticksTo 38 = .ok (.aload_n 0, 1) ∧ decode cX8_ticksTo 39 = .ok (.getfield 7, 3) ∧ decode cX8_ticksTo 42 = .ok (.iconst 5, 1) ∧ decode cX8_ticksTo 43 = .ok (.iaload, 1) ∧ decode cX8_ticksTo 44 = .ok (.ifCond .ne 10, 3) ∧ decode cX8_ticksTo 47 = .ok (.aload_n 0, 1) ∧ decode cX8_ticksTo 48 = .ok (.invokevirtual 151, 3) ∧ decode cX8_ticksTo 51 = .ok (.goto 4, 3) ∧ decode cX8_ticksTo 54 = .ok (.iconst 0, 1) ∧ decode cX8_ticksTo 55 = .ok (.istore_n 3, 1) ∧ decode cX8_ticksTo 56 = .ok (.iload_n 2, 1) ∧ decode cX8_ticksTo 57 = .ok (.aload_n 0, 1) ∧ decode cX8_ticksTo 58 = .ok (.iload_n 1, 1) ∧ decode cX8_ticksTo 59 = .ok (.invokevirtual 87, 3) ∧ decode cX8_ticksTo 62 = .ok (.ifCond .ge 7, 3) ∧ decode cX8_ticksTo 65 = .ok (.iconst 1, 1) ∧ decode cX8_ticksTo 66 = .ok (.goto 13, 3) ∧ decode cX8_ticksTo 69 = .ok (.aload_n 0, 1) ∧ decode cX8_ticksTo 70 = .ok (.iload_n 3, 1) ∧ decode cX8_ticksTo 71 = .ok (.sipush 20000, 3) ∧ decode cX8_ticksTo 74 = .ok (.iload_n 2, 1) ∧ decode cX8_ticksTo 75 = .ok (.isub, 1) ∧ decode cX8_ticksTo 76 = .ok (.invokevirtual 154, 3) ∧ decode cX8_ticksTo 79 = .ok (.iadd, 1) ∧ decode cX8_ticksTo 80 = .ok (.istore_n 2, 1) ∧ decode cX8_ticksTo 81 = .ok (.goto (-58), 3) ∧ decode cX8_ticksTo 84 = .ok (.aload_n 0, 1) ∧ decode cX8_ticksTo 85 = .ok (.iload_n 1, 1) ∧ decode cX8_ticksTo 86 = .ok (.invokevirtual 87, 3) ∧ decode cX8_ticksTo 89 = .ok (.ifCond .ge 7, 3) ∧ decode cX8_ticksTo 92 = .ok (.iconst 1, 1) ∧ decode cX8_ticksTo 93 = .ok (.goto 4, 3) ∧ decode cX8_ticksTo 96 = .ok (.iconst 0, 1) ∧ decode cX8_ticksTo 97 = .ok (.istore_n 3, 1) ∧ decode cX8_ticksTo 98 = .ok (.aload_n 0, 1) ∧ decode cX8_ticksTo 99 = .ok (.invokevirtual 160, 3) ∧ decode cX8_ticksTo 102 = .ok (.iload_n 3, 1) ∧ decode cX8_ticksTo 103 = .ok (.ifCond .eq 7, 3) ∧ decode cX8_ticksTo 106 = .ok (.iload_n 2, 1) ∧ decode cX8_ticksTo 107 = .ok (.goto 5, 3) ∧ decode cX8_ticksTo 110 = .ok (.bipush (-4), 2) ∧ decode cX8_ticksTo 112 = .ok (.ireturn, 1) ∧ True := dq_of (l := (0, .iload_n 1, 1) :: (1, .ifCond .ge 5, 3) :: (4, .iconst (-1), 1) :: (5, .ireturn, 1) :: (6, .aload_n 0, 1) :: (7, .iload_n 1, 1) :: (8, .invokevirtual 87, 3) :: (11, .ifCond .ge 6, 3) :: (14, .bipush (-4), 2) :: (16, .ireturn, 1) :: (17, .aload_n 0, 1) :: (18, .invokevirtual 157, 3) :: (21, .iconst 0, 1) :: (22, .istore_n 2, 1) :: (23, .iload_n 2, 1) :: (24, .sipush 20000, 3) :: (27, .if_icmp .ge 57, 3) :: (30, .aload_n 0, 1) :: (31, .iload_n 1, 1) :: (32, .invokevirtual 87, 3) :: (35, .ifCond .lt 49, 3) :: (38, .aload_n 0, 1) :: (39, .getfield 7, 3) :: (42, .iconst 5, 1) :: (43, .iaload, 1) :: (44, .ifCond .ne 10, 3) :: (47, .aload_n 0, 1) :: (48, .invokevirtual 151, 3) :: (51, .goto 4, 3) :: (54, .iconst 0, 1) :: (55, .istore_n 3, 1) :: (56, .iload_n 2, 1) :: (57, .aload_n 0, 1) :: (58, .iload_n 1, 1) :: (59, .invokevirtual 87, 3) :: (62, .ifCond .ge 7, 3) :: (65, .iconst 1, 1) :: (66, .goto 13, 3) :: (69, .aload_n 0, 1) :: (70, .iload_n 3, 1) :: (71, .sipush 20000, 3) :: (74, .iload_n 2, 1) :: (75, .isub, 1) :: (76, .invokevirtual 154, 3) :: (79, .iadd, 1) :: (80, .istore_n 2, 1) :: (81, .goto (-58), 3) :: (84, .aload_n 0, 1) :: (85, .iload_n 1, 1) :: (86, .invokevirtual 87, 3) :: (89, .ifCond .ge 7, 3) :: (92, .iconst 1, 1) :: (93, .goto 4, 3) :: (96, .iconst 0, 1) :: (97, .istore_n 3, 1) :: (98, .aload_n 0, 1) :: (99, .invokevirtual 160, 3) :: (102, .iload_n 3, 1) :: (103, .ifCond .eq 7, 3) :: (106, .iload_n 2, 1) :: (107, .goto 5, 3) :: (110, .bipush (-4), 2) :: (112, .ireturn, 1) :: []) (by decide +kernel)
set_option maxRecDepth 100000 in
theorem D_X8_type : decode cX8_type 0 = .ok (.iload_n 1, 1) ∧ decode cX8_type 1 = .ok (.bipush 32, 2) ∧ decode cX8_type 3 = .ok (.bipush 126, 2) ∧ decode cX8_type 5 = .ok (.invokestatic 32, 3) ∧ decode cX8_type 8 = .ok (.ifCond .ne 5, 3) ∧ decode cX8_type 11 = .ok (.iconst (-1), 1) ∧ decode cX8_type 12 = .ok (.ireturn, 1) ∧ decode cX8_type 13 = .ok (.aload_n 0, 1) ∧ decode cX8_type 14 = .ok (.getfield 166, 3) ∧ decode cX8_type 17 = .ok (.bipush 100, 2) ∧ decode cX8_type 19 = .ok (.if_icmp .ne 6, 3) ∧ decode cX8_type 22 = .ok (.bipush (-3), 2) ∧ decode cX8_type 24 = .ok (.ireturn, 1) ∧ decode cX8_type 25 = .ok (.aload_n 0, 1) ∧ decode cX8_type 26 = .ok (.getfield 23, 3) ∧ decode cX8_type 29 = .ok (.aload_n 0, 1) ∧ decode cX8_type 30 = .ok (.getfield 166, 3) ∧ decode cX8_type 33 = .ok (.iload_n 1, 1) ∧ decode cX8_type 34 = .ok (.iastore, 1) ∧ decode cX8_type 35 = .ok (.aload_n 0, 1) ∧ decode cX8_type 36 = .ok (.dup, 1) ∧ decode cX8_type 37 = .ok (.getfield 166, 3) ∧ decode cX8_type 40 = .ok (.iconst 1, 1) ∧ decode cX8_type 41 = .ok (.iadd, 1) ∧ decode cX8_type 42 = .ok (.putfield 166, 3) ∧ decode cX8_type 45 = .ok (.aload_n 0, 1) ∧ decode cX8_type 46 = .ok (.getfield 166, 3) ∧ decode cX8_type 49 = .ok (.ireturn, 1) ∧ True := dq_of (l := (0, .iload_n 1, 1) :: (1, .bipush 32, 2) :: (3, .bipush 126, 2) :: (5, .invokestatic 32, 3) :: (8, .ifCond .ne 5, 3) :: (11, .iconst (-1), 1) :: (12, .ireturn, 1) :: (13, .aload_n 0, 1) :: (14, .getfield 166, 3) :: (17, .bipush 100, 2) :: (19, .if_icmp .ne 6, 3) :: (22, .bipush (-3), 2) :: (24, .ireturn, 1) :: (25, .aload_n 0, 1) :: (26, .getfield 23, 3) :: (29, .aload_n 0, 1) :: (30, .getfield 166, 3) :: (33, .iload_n 1, 1) :: (34, .iastore, 1) :: (35, .aload_n 0, 1) :: (36, .dup, 1) :: (37, .getfield 166, 3) :: (40, .iconst 1, 1) :: (41, .iadd, 1) :: (42, .putfield 166, 3) :: (45, .aload_n 0, 1) :: (46, .getfield 166, 3) :: (49, .ireturn, 1) :: []) (by decide +kernel)
set_option maxRecDepth 100000 in
theorem D_X8_clearText : decode cX8_clearText 0 = .ok (.aload_n 0, 1) ∧ decode cX8_clearText 1 = .ok (.getfield 166, 3) ∧ decode cX8_clearText 4 = .ok (.istore_n 1, 1) ∧ decode cX8_clearText 5 = .ok (.aload_n 0, 1) ∧ decode cX8_clearText 6 = .ok (.iconst 0, 1) ∧ decode cX8_clearText 7 = .ok (.putfield 166, 3) ∧ decode cX8_clearText 10 = .ok (.iload_n 1, 1) ∧ decode cX8_clearText 11 = .ok (.ireturn, 1) ∧ True := dq_of (l := (0, .aload_n 0, 1) :: (1, .getfield 166, 3) :: (4, .istore_n 1, 1) :: (5, .aload_n 0, 1) :: (6, .iconst 0, 1) :: (7, .putfield 166, 3) :: (10, .iload_n 1, 1) :: (11, .ireturn, 1) :: []) (by decide +kernel)
set_option maxRecDepth 100000 in
theorem D_X8_isAt : decode cX8_isAt 0 = .ok (.aload_n 0, 1) ∧ decode cX8_isAt 1 = .ok (.getfield 169, 3) ∧ decode cX8_isAt 4 = .ok (.aload_n 0, 1) ∧ decode cX8_isAt 5 = .ok (.getfield 166, 3) ∧ decode cX8_isAt 8 = .ok (.if_icmp .ge 20, 3) ∧ decode cX8_isAt 11 = .ok (.aload_n 0, 1) ∧ decode cX8_isAt 12 = .ok (.getfield 23, 3) ∧ decode cX8_isAt 15 = .ok (.aload_n 0, 1) ∧ decode cX8_isAt 16 = .ok (.getfield 169, 3) ∧ decode cX8_isAt 19 = .ok (.iaload, 1) ∧ decode cX8_isAt 20 = .ok (.iload_n 1, 1) ∧ decode cX8_isAt 21 = .ok (.if_icmp .ne 7, 3) ∧ decode cX8_isAt 24 = .ok (.iconst 1, 1) ∧ decode cX8_isAt 25 = .ok (.goto 4, 3) ∧ decode cX8_isAt 28 = .ok (.iconst 0, 1) ∧ decode cX8_isAt 29 = .ok (.ireturn, 1) ∧ True := dq_of (l := (0, .aload_n 0, 1) :: (1, .getfield 169, 3) :: (4, .aload_n 0, 1) :: (5, .getfield 166, 3) :: (8, .if_icmp .ge 20, 3) :: (11, .aload_n 0, 1) :: (12, .getfield 23, 3) :: (15, .aload_n 0, 1) :: (16, .getfield 169, 3) :: (19, .iaload, 1) :: (20, .iload_n 1, 1) :: (21, .if_icmp .ne 7, 3) :: (24, .iconst 1, 1) :: (25, .goto 4, 3) :: (28, .iconst 0, 1) :: (29, .ireturn, 1) :: []) (by decide +kernel)
set_option maxRecDepth 100000 in
theorem D_X8_takes : decode cX8_takes 0 = .ok (.aload_n 0, 1) ∧ decode cX8_takes 1 = .ok (.iload_n 1, 1) ∧ decode cX8_takes 2 = .ok (.invokevirtual 172, 3) ∧ decode cX8_takes 5 = .ok (.istore_n 2, 1) ∧ decode cX8_takes 6 = .ok (.aload_n 0, 1) ∧ decode cX8_takes 7 = .ok (.dup, 1) ∧ decode cX8_takes 8 = .ok (.getfield 169, 3) ∧ decode cX8_takes 11 = .ok (.iload_n 2, 1) ∧ decode cX8_takes 12 = .ok (.ifCond .eq 7, 3) ∧ decode cX8_takes 15 = .ok (.iconst 1, 1) ∧ decode cX8_takes 16 = .ok (.goto 4, 3) ∧ decode cX8_takes 19 = .ok (.iconst 0, 1) ∧ decode cX8_takes 20 = .ok (.iadd, 1) ∧ decode cX8_takes 21 = .ok (.putfield 169, 3) ∧ decode cX8_takes 24 = .ok (.iload_n 2, 1) ∧ decode cX8_takes 25 = .ok (.ireturn, 1) ∧ True := dq_of (l := (0, .aload_n 0, 1) :: (1, .iload_n 1, 1) :: (2, .invokevirtual 172, 3) :: (5, .istore_n 2, 1) :: (6, .aload_n 0, 1) :: (7, .dup, 1) :: (8, .getfield 169, 3) :: (11, .iload_n 2, 1) :: (12, .ifCond .eq 7, 3) :: (15, .iconst 1, 1) :: (16, .goto 4, 3) :: (19, .iconst 0, 1) :: (20, .iadd, 1) :: (21, .putfield 169, 3) :: (24, .iload_n 2, 1) :: (25, .ireturn, 1) :: []) (by decide +kernel)
set_option maxRecDepth 100000 in
theorem D_X8_takesNumber : decode cX8_takesNumber 0 = .ok (.aload_n 0, 1) ∧ decode cX8_takesNumber 1 = .ok (.getfield 169, 3) ∧ decode cX8_takesNumber 4 = .ok (.istore_n 3, 1) ∧ decode cX8_takesNumber 5 = .ok (.iconst 0, 1) ∧ decode cX8_takesNumber 6 = .ok (.istore 4, 2) ∧ decode cX8_takesNumber 8 = .ok (.aload_n 0, 1) ∧ decode cX8_takesNumber 9 = .ok (.getfield 169, 3) ∧ decode cX8_takesNumber 12 = .ok (.aload_n 0, 1) ∧ decode cX8_takesNumber 13 = .ok (.getfield 166, 3) ∧ decode cX8_takesNumber 16 = .ok (.if_icmp .ge 65, 3) ∧ decode cX8_takesNumber 19 = .ok (.aload_n 0, 1) ∧ decode cX8_takesNumber 20 = .ok (.getfield 23, 3) ∧ decode cX8_takesNumber 23 = .ok (.aload_n 0, 1) ∧ decode cX8_takesNumber 24 = .ok (.getfield 169, 3) ∧ decode cX8_takesNumber 27 = .ok (.iaload, 1) ∧ decode cX8_takesNumber 28 = .ok (.bipush 48, 2) ∧ decode cX8_takesNumber 30 = .ok (.bipush 57, 2) ∧ decode cX8_takesNumber 32 = .ok (.invokestatic 32, 3) ∧ decode cX8_takesNumber 35 = .ok (.ifCond .eq 46, 3) ∧ decode cX8_takesNumber 38 = .ok (.aload_n 0, 1) ∧ decode cX8_takesNumber 39 = .ok (.getfield 169, 3) ∧ decode cX8_takesNumber 42 = .ok (.iload_n 3, 1) ∧ decode cX8_takesNumber 43 = .ok (.iconst 3, 1) ∧ decode cX8_takesNumber 44 = .ok (.iadd, 1) ∧ decode cX8_takesNumber 45 = .ok (.if_icmp .ge 36, 3) ∧ decode cX8_takesNumber 48 = .ok (.bipush 10, 2) ∧ decode cX8_takesNumber 50 = .ok (.iload 4, 2) ∧ decode cX8_takesNumber 52 = .ok (.imul, 1) ∧ decode cX8_takesNumber 53 = .ok (.aload_n 0, 1) ∧ decode cX8_takesNumber 54 = .ok (.getfield 23, 3) ∧ decode cX8_takesNumber 57 = .ok (.aload_n 0, 1) ∧ decode cX8_takesNumber 58 = .ok (.getfield 169, 3) ∧ decode cX8_takesNumber 61 = .ok (.iaload, 1) ∧ decode cX8_takesNumber 62 = .ok (.iadd, 1) ∧ decode cX8_takesNumber 63 = .ok (.bipush 48, 2) ∧ decode cX8_takesNumber 65 = .ok (.isub, 1) ∧ decode cX8_takesNumber 66 = .ok (.istore 4, 2) ∧ decode cX8_takesNumber 68 = .ok (.aload_n 0, 1) ∧ decode cX8_takesNumber 69 = .ok (.dup, 1) ∧ decode cX8_takesNumber 70 = .ok (.getfield 169, 3) ∧ decode cX8_takesNumber 73 = .ok (.iconst 1, 1) ∧ decode cX8_takesNumber 74 = .ok (.iadd, 1) ∧ decode cX8_takesNumber 75 = .ok (.putfield 169, 3) ∧ decode cX8_takesNumber 78 = .ok (.goto (-70), 3) ∧ decode cX8_takesNumber 81 = .ok (.aload_n 0, 1) ∧ decode cX8_takesNumber 82 = .ok (.getfield 26, 3) ∧ decode cX8_takesNumber 85 = .ok (.iload_n 1, 1) ∧ decode cX8_takesNumber 86 = .ok (.iload 4, 2) ∧ decode cX8_takesNumber 88 = .ok (.iastore, 1) ∧ decode cX8_takesNumber 89 = .ok (.aload_n 0, 1) ∧ decode cX8_takesNumber 90 = .ok (.getfield 169, 3) ∧ decode cX8_takesNumber 93 = .ok (.iload_n 3, 1) ∧ decode cX8_takesNumber 94 = .ok (.if_icmp .le 15, 3) ∧ decode cX8_takesNumber 97 = .ok (.aload_n 0, 1) ∧ decode cX8_takesNumber 98 = .ok (.iload_n 2, 1) ∧ decode cX8_takesNumber 99 = .ok (.invokevirtual 175, 3) ∧ decode cX8_takesNumber 102 = .ok (.ifCond .eq 7, 3) ∧ decode cX8_takesNumber 105 = .ok (.iconst 1, 1) ∧ decode cX8_takesNumber 106 = .ok (.goto 4, 3) ∧ decode cX8_takesNumber 109 = .ok (.iconst 0, 1) ∧ decode cX8_takesNumber 110 = .ok (.ireturn, 1) ∧ True := dq_of (l := (0, .aload_n 0, 1) :: (1, .getfield 169, 3) :: (4, .istore_n 3, 1) :: (5, .iconst 0, 1) :: (6, .istore 4, 2) :: (8, .aload_n 0, 1) :: (9, .getfield 169, 3) :: (12, .aload_n 0, 1) :: (13, .getfield 166, 3) :: (16, .if_icmp .ge 65, 3) :: (19, .aload_n 0, 1) :: (20, .getfield 23, 3) :: (23, .aload_n 0, 1) :: (24, .getfield 169, 3) :: (27, .iaload, 1) :: (28, .bipush 48, 2) :: (30, .bipush 57, 2) :: (32, .invokestatic 32, 3) :: (35, .ifCond .eq 46, 3) :: (38, .aload_n 0, 1) :: (39, .getfield 169, 3) :: (42, .iload_n 3, 1) :: (43, .iconst 3, 1) :: (44, .iadd, 1) :: (45, .if_icmp .ge 36, 3) :: (48, .bipush 10, 2) :: (50, .iload 4, 2) :: (52, .imul, 1) :: (53, .aload_n 0, 1) :: (54, .getfield 23, 3) :: (57, .aload_n 0, 1) :: (58, .getfield 169, 3) :: (61, .iaload, 1) :: (62, .iadd, 1) :: (63, .bipush 48, 2) :: (65, .isub, 1) :: (66, .istore 4, 2) :: (68, .aload_n 0, 1) :: (69, .dup, 1) :: (70, .getfield 169, 3) :: (73, .iconst 1, 1) :: (74, .iadd, 1) :: (75, .putfield 169, 3) :: (78, .goto (-70), 3) :: (81, .aload_n 0, 1) :: (82, .getfield 26, 3) :: (85, .iload_n 1, 1) :: (86, .iload 4, 2) :: (88, .iastore, 1) :: (89, .aload_n 0, 1) :: (90, .getfield 169, 3) :: (93, .iload_n 3, 1) :: (94, .if_icmp .le 15, 3) :: (97, .aload_n 0, 1) :: (98, .iload_n 2, 1) :: (99, .invokevirtual 175, 3) :: (102, .ifCond .eq 7, 3) :: (105, .iconst 1, 1) :: (106, .goto 4, 3) :: (109, .iconst 0, 1) :: (110, .ireturn, 1) :: []) (by decide +kernel)
set_option maxRecDepth 100000 in
theorem D_X8_letterAt : decode cX8_letterAt 0 = .ok (.iload_n 0, 1) ∧ decode cX8_letterAt 1 = .ok (.tableswitch 103 0 7 #[47, 54, 61, 68, 75, 82, 89, 96], 47) ∧ decode cX8_letterAt 48 = .ok (.ldc2_w 178, 3) ∧ decode cX8_letterAt 51 = .ok (.lstore_n 2, 1) ∧ decode cX8_letterAt 52 = .ok (.goto 56, 3) ∧ decode cX8_letterAt 55 = .ok (.ldc2_w 180, 3) ∧ decode cX8_letterAt 58 = .ok (.lstore_n 2, 1) ∧ decode cX8_letterAt 59 = .ok (.goto 49, 3) ∧ decode cX8_letterAt 62 = .ok (.ldc2_w 182, 3) ∧ decode cX8_letterAt 65 = .ok (.lstore_n 2, 1) ∧ decode cX8_letterAt 66 = .ok (.goto 42, 3) ∧ decode cX8_letterAt 69 = .ok (.ldc2_w 184, 3) ∧ decode cX8_letterAt 72 = .ok (.lstore_n 2, 1) ∧ decode cX8_letterAt 73 = .ok (.goto 35, 3) ∧ decode cX8_letterAt 76 = .ok (.ldc2_w 186, 3) ∧ decode cX8_letterAt 79 = .ok (.lstore_n 2, 1) ∧ decode cX8_letterAt 80 = .ok (.goto 28, 3) ∧ decode cX8_letterAt 83 = .ok (.ldc2_w 188, 3) ∧ decode cX8_letterAt 86 = .ok (.lstore_n 2, 1) ∧ decode cX8_letterAt 87 = .ok (.goto 21, 3) ∧ decode cX8_letterAt 90 = .ok (.ldc2_w 190, 3) ∧ decode cX8_letterAt 93 = .ok (.lstore_n 2, 1) ∧ decode cX8_letterAt 94 = .ok (.goto 14, 3) ∧ decode cX8_letterAt 97 = .ok (.ldc2_w 192, 3) ∧ decode cX8_letterAt 100 = .ok (.lstore_n 2, 1) ∧ decode cX8_letterAt 101 = .ok (.goto 7, 3) ∧ decode cX8_letterAt 104 = .ok (.ldc2_w 194, 3) ∧ decode cX8_letterAt 107 = .ok (.lstore_n 2, 1) ∧ decode cX8_letterAt 108 = .ok (.iconst 0, 1) ∧ decode cX8_letterAt 109 = .ok (.istore 4, 2) ∧ decode cX8_letterAt 111 = .ok (.lload_n 2, 1) ∧ decode cX8_letterAt 112 = .ok (.lstore 5, 2) ∧ decode cX8_letterAt 114 = .ok (.lload 5, 2) ∧ decode cX8_letterAt 116 = .ok (.lconst 0, 1) ∧ decode cX8_letterAt 117 = .ok (.lcmp, 1) ∧ decode cX8_letterAt 118 = .ok (.ifCond .le 16, 3) ∧ decode cX8_letterAt 121 = .ok (.iinc 4 1, 3) ∧ decode cX8_letterAt 124 = .ok (.lload 5, 2) ∧ decode cX8_letterAt 126 = .ok (.bipush 8, 2) ∧ decode cX8_letterAt 128 = .ok (.lshr, 1) ∧ decode cX8_letterAt 129 = .ok (.lstore 5, 2) ∧ decode cX8_letterAt 131 = .ok (.goto (-17), 3) ∧ decode cX8_letterAt 134 = .ok (.iload_n 1, 1) ∧ decode cX8_letterAt 135 = .ok (.iload 4, 2) ∧ decode cX8_letterAt 137 = .ok (.if_icmp .lt 7, 3) ∧ decode cX8_letterAt 140 = .ok (.iconst 0, 1) ∧ decode cX8_letterAt 141 = .ok (.goto 19, 3) ∧ decode cX8_letterAt 144 = .ok (.lload_n 2, 1) ∧ decode cX8_letterAt 145 = .ok (.bipush 8, 2) ∧ decode cX8_letterAt 147 = .ok (.iload 4, 2) ∧ decode cX8_letterAt 149 = .ok (.iconst 1, 1) ∧ decode cX8_letterAt 150 = .ok (.isub, 1) ∧ decode cX8_letterAt 151 = .ok (.iload_n 1, 1) ∧ decode cX8_letterAt 152 = .ok (.isub, 1) ∧ decode cX8_letterAt 153 = .ok (.imul, 1) ∧ decode cX8_letterAt 154 = .ok (.lshr, 1) ∧ decode cX8_letterAt 155 = .ok (.ldc2_w 196, 3) ∧ decode cX8_letterAt 158 = .ok (.land, 1) ∧ decode cX8_letterAt 159 = .ok (.l2i, 1) ∧ decode cX8_letterAt 160 = .ok (.ireturn, 1) ∧ True := dq_of (l := (0, .iload_n 0, 1) :: (1, .tableswitch 103 0 7 #[47, 54, 61, 68, 75, 82, 89, 96], 47) :: (48, .ldc2_w 178, 3) :: (51, .lstore_n 2, 1) :: (52, .goto 56, 3) :: (55, .ldc2_w 180, 3) :: (58, .lstore_n 2, 1) :: (59, .goto 49, 3) :: (62, .ldc2_w 182, 3) :: (65, .lstore_n 2, 1) :: (66, .goto 42, 3) :: (69, .ldc2_w 184, 3) :: (72, .lstore_n 2, 1) :: (73, .goto 35, 3) :: (76, .ldc2_w 186, 3) :: (79, .lstore_n 2, 1) :: (80, .goto 28, 3) :: (83, .ldc2_w 188, 3) :: (86, .lstore_n 2, 1) :: (87, .goto 21, 3) :: (90, .ldc2_w 190, 3) :: (93, .lstore_n 2, 1) :: (94, .goto 14, 3) :: (97, .ldc2_w 192, 3) :: (100, .lstore_n 2, 1) :: (101, .goto 7, 3) :: (104, .ldc2_w 194, 3) :: (107, .lstore_n 2, 1) :: (108, .iconst 0, 1) :: (109, .istore 4, 2) :: (111, .lload_n 2, 1) :: (112, .lstore 5, 2) :: (114, .lload 5, 2) :: (116, .lconst 0, 1) :: (117, .lcmp, 1) :: (118, .ifCond .le 16, 3) :: (121, .iinc 4 1, 3) :: (124, .lload 5, 2) :: (126, .bipush 8, 2) :: (128, .lshr, 1) :: (129, .lstore 5, 2) :: (131, .goto (-17), 3) :: (134, .iload_n 1, 1) :: (135, .iload 4, 2) :: (137, .if_icmp .lt 7, 3) :: (140, .iconst 0, 1) :: (141, .goto 19, 3) :: (144, .lload_n 2, 1) :: (145, .bipush 8, 2) :: (147, .iload 4, 2) :: (149, .iconst 1, 1) :: (150, .isub, 1) :: (151, .iload_n 1, 1) :: (152, .isub, 1) :: (153, .imul, 1) :: (154, .lshr, 1) :: (155, .ldc2_w 196, 3) :: (158, .land, 1) :: (159, .l2i, 1) :: (160, .ireturn, 1) :: []) (by decide +kernel)
set_option maxRecDepth 100000 in
theorem D_X8_takesWord : decode cX8_takesWord 0 = .ok (.iconst 0, 1) ∧ decode cX8_takesWord 1 = .ok (.istore_n 2, 1) ∧ decode cX8_takesWord 2 = .ok (.iload_n 1, 1) ∧ decode cX8_takesWord 3 = .ok (.iload_n 2, 1) ∧ decode cX8_takesWord 4 = .ok (.invokestatic 198, 3) ∧ decode cX8_takesWord 7 = .ok (.ifCond .le 41, 3) ∧ decode cX8_takesWord 10 = .ok (.aload_n 0, 1) ∧ decode cX8_takesWord 11 = .ok (.getfield 169, 3) ∧ decode cX8_takesWord 14 = .ok (.iload_n 2, 1) ∧ decode cX8_takesWord 15 = .ok (.iadd, 1) ∧ decode cX8_takesWord 16 = .ok (.aload_n 0, 1) ∧ decode cX8_takesWord 17 = .ok (.getfield 166, 3) ∧ decode cX8_takesWord 20 = .ok (.if_icmp .ge 28, 3) ∧ decode cX8_takesWord 23 = .ok (.aload_n 0, 1) ∧ decode cX8_takesWord 24 = .ok (.getfield 23, 3) ∧ decode cX8_takesWord 27 = .ok (.aload_n 0, 1) ∧ decode cX8_takesWord 28 = .ok (.getfield 169, 3) ∧ decode cX8_takesWord 31 = .ok (.iload_n 2, 1) ∧ decode cX8_takesWord 32 = .ok (.iadd, 1) ∧ decode cX8_takesWord 33 = .ok (.iaload, 1) ∧ decode cX8_takesWord 34 = .ok (.iload_n 1, 1) ∧ decode cX8_takesWord 35 = .ok (.iload_n 2, 1) ∧ decode cX8_takesWord 36 = .ok (.invokestatic 198, 3) ∧ decode cX8_takesWord 39 = .ok (.if_icmp .ne 9, 3) ∧ decode cX8_takesWord 42 = .ok (.iinc 2 1, 3) ∧ decode cX8_takesWord 45 = .ok (.goto (-43), 3) ∧ decode cX8_takesWord 48 = .ok (.iload_n 1, 1) ∧ decode cX8_takesWord 49 = .ok (.iload_n 2, 1) ∧ decode cX8_takesWord 50 = .ok (.invokestatic 198, 3) ∧ decode cX8_takesWord 53 = .ok (.ifCond .ne 7, 3) ∧ decode cX8_takesWord 56 = .ok (.iconst 1, 1) ∧ decode cX8_takesWord 57 = .ok (.goto 4, 3) ∧ decode cX8_takesWord 60 = .ok (.iconst 0, 1) ∧ decode cX8_takesWord 61 = .ok (.istore_n 3, 1) ∧ decode cX8_takesWord 62 = .ok (.aload_n 0, 1) ∧ decode cX8_takesWord 63 = .ok (.dup, 1) ∧ decode cX8_takesWord 64 = .ok (.getfield 169, 3) ∧ decode cX8_takesWord 67 = .ok (.iload_n 3, 1) ∧ decode cX8_takesWord 68 = .ok (.ifCond .eq 7, 3) ∧ decode cX8_takesWord 71 = .ok (.iload_n 2, 1) ∧ decode cX8_takesWord 72 = .ok (.goto 4, 3) ∧ decode cX8_takesWord 75 = .ok (.iconst 0, 1) ∧ decode cX8_takesWord 76 = .ok (.iadd, 1) ∧ decode cX8_takesWord 77 = .ok (.putfield 169, 3) ∧ decode cX8_takesWord 80 = .ok (.iload_n 3, 1) ∧ decode cX8_takesWord 81 = .ok (.ireturn, 1) ∧ True := dq_of (l := (0, .iconst 0, 1) :: (1, .istore_n 2, 1) :: (2, .iload_n 1, 1) :: (3, .iload_n 2, 1) :: (4, .invokestatic 198, 3) :: (7, .ifCond .le 41, 3) :: (10, .aload_n 0, 1) :: (11, .getfield 169, 3) :: (14, .iload_n 2, 1) :: (15, .iadd, 1) :: (16, .aload_n 0, 1) :: (17, .getfield 166, 3) :: (20, .if_icmp .ge 28, 3) :: (23, .aload_n 0, 1) :: (24, .getfield 23, 3) :: (27, .aload_n 0, 1) :: (28, .getfield 169, 3) :: (31, .iload_n 2, 1) :: (32, .iadd, 1) :: (33, .iaload, 1) :: (34, .iload_n 1, 1) :: (35, .iload_n 2, 1) :: (36, .invokestatic 198, 3) :: (39, .if_icmp .ne 9, 3) :: (42, .iinc 2 1, 3) :: (45, .goto (-43), 3) :: (48, .iload_n 1, 1) :: (49, .iload_n 2, 1) :: (50, .invokestatic 198, 3) :: (53, .ifCond .ne 7, 3) :: (56, .iconst 1, 1) :: (57, .goto 4, 3) :: (60, .iconst 0, 1) :: (61, .istore_n 3, 1) :: (62, .aload_n 0, 1) :: (63, .dup, 1) :: (64, .getfield 169, 3) :: (67, .iload_n 3, 1) :: (68, .ifCond .eq 7, 3) :: (71, .iload_n 2, 1) :: (72, .goto 4, 3) :: (75, .iconst 0, 1) :: (76, .iadd, 1) :: (77, .putfield 169, 3) :: (80, .iload_n 3, 1) :: (81, .ireturn, 1) :: []) (by decide +kernel)
set_option maxRecDepth 100000 in
theorem D_X8_takesOption : decode cX8_takesOption 0 = .ok (.aload_n 0, 1) ∧ decode cX8_takesOption 1 = .ok (.getfield 169, 3) ∧ decode cX8_takesOption 4 = .ok (.istore_n 2, 1) ∧ decode cX8_takesOption 5 = .ok (.aload_n 0, 1) ∧ decode cX8_takesOption 6 = .ok (.bipush 32, 2) ∧ decode cX8_takesOption 8 = .ok (.invokevirtual 175, 3) ∧ decode cX8_takesOption 11 = .ok (.ifCond .eq 15, 3) ∧ decode cX8_takesOption 14 = .ok (.aload_n 0, 1) ∧ decode cX8_takesOption 15 = .ok (.iload_n 1, 1) ∧ decode cX8_takesOption 16 = .ok (.invokevirtual 201, 3) ∧ decode cX8_takesOption 19 = .ok (.ifCond .eq 7, 3) ∧ decode cX8_takesOption 22 = .ok (.iconst 1, 1) ∧ decode cX8_takesOption 23 = .ok (.goto 4, 3) ∧ decode cX8_takesOption 26 = .ok (.iconst 0, 1) ∧ decode cX8_takesOption 27 = .ok (.istore_n 3, 1) ∧ decode cX8_takesOption 28 = .ok (.aload_n 0, 1) ∧ decode cX8_takesOption 29 = .ok (.iload_n 3, 1) ∧ decode cX8_takesOption 30 = .ok (.ifCond .eq 10, 3) ∧ decode cX8_takesOption 33 = .ok (.aload_n 0, 1) ∧ decode cX8_takesOption 34 = .ok (.getfield 169, 3) ∧ decode cX8_takesOption 37 = .ok (.goto 4, 3) ∧ decode cX8_takesOption 40 = .ok (.iload_n 2, 1) ∧ decode cX8_takesOption 41 = .ok (.putfield 169, 3) ∧ decode cX8_takesOption 44 = .ok (.iload_n 3, 1) ∧ decode cX8_takesOption 45 = .ok (.ireturn, 1) ∧ True := dq_of (l := (0, .aload_n 0, 1) :: (1, .getfield 169, 3) :: (4, .istore_n 2, 1) :: (5, .aload_n 0, 1) :: (6, .bipush 32, 2) :: (8, .invokevirtual 175, 3) :: (11, .ifCond .eq 15, 3) :: (14, .aload_n 0, 1) :: (15, .iload_n 1, 1) :: (16, .invokevirtual 201, 3) :: (19, .ifCond .eq 7, 3) :: (22, .iconst 1, 1) :: (23, .goto 4, 3) :: (26, .iconst 0, 1) :: (27, .istore_n 3, 1) :: (28, .aload_n 0, 1) :: (29, .iload_n 3, 1) :: (30, .ifCond .eq 10, 3) :: (33, .aload_n 0, 1) :: (34, .getfield 169, 3) :: (37, .goto 4, 3) :: (40, .iload_n 2, 1) :: (41, .putfield 169, 3) :: (44, .iload_n 3, 1) :: (45, .ireturn, 1) :: []) (by decide +kernel)
set_option maxRecDepth 100000 in
theorem D_X8_takesSize : decode cX8_takesSize 0 = .ok (.aload_n 0, 1) ∧ decode cX8_takesSize 1 = .ok (.iconst 4, 1) ∧ decode cX8_takesSize 2 = .ok (.invokevirtual 201, 3) ∧ decode cX8_takesSize 5 = .ok (.ifCond .eq 12, 3) ∧ decode cX8_takesSize 8 = .ok (.aload_n 0, 1) ∧ decode cX8_takesSize 9 = .ok (.getfield 26, 3) ∧ decode cX8_takesSize 12 = .ok (.iconst 2, 1) ∧ decode cX8_takesSize 13 = .ok (.iconst 3, 1) ∧ decode cX8_takesSize 14 = .ok (.iastore, 1) ∧ decode cX8_takesSize 15 = .ok (.iconst 1, 1) ∧ decode cX8_takesSize 16 = .ok (.ireturn, 1) ∧ decode cX8_takesSize 17 = .ok (.aload_n 0, 1) ∧ decode cX8_takesSize 18 = .ok (.iconst 3, 1) ∧ decode cX8_takesSize 19 = .ok (.invokevirtual 201, 3) ∧ decode cX8_takesSize 22 = .ok (.ifCond .eq 33, 3) ∧ decode cX8_takesSize 25 = .ok (.aload_n 0, 1) ∧ decode cX8_takesSize 26 = .ok (.getfield 169, 3) ∧ decode cX8_takesSize 29 = .ok (.aload_n 0, 1) ∧ decode cX8_takesSize 30 = .ok (.getfield 166, 3) ∧ decode cX8_takesSize 33 = .ok (.if_icmp .eq 22, 3) ∧ decode cX8_takesSize 36 = .ok (.aload_n 0, 1) ∧ decode cX8_takesSize 37 = .ok (.getfield 23, 3) ∧ decode cX8_takesSize 40 = .ok (.aload_n 0, 1) ∧ decode cX8_takesSize 41 = .ok (.getfield 169, 3) ∧ decode cX8_takesSize 44 = .ok (.iaload, 1) ∧ decode cX8_takesSize 45 = .ok (.bipush 51, 2) ∧ decode cX8_takesSize 47 = .ok (.bipush 53, 2) ∧ decode cX8_takesSize 49 = .ok (.invokestatic 32, 3) ∧ decode cX8_takesSize 52 = .ok (.ifCond .ne 5, 3) ∧ decode cX8_takesSize 55 = .ok (.iconst 0, 1) ∧ decode cX8_takesSize 56 = .ok (.ireturn, 1) ∧ decode cX8_takesSize 57 = .ok (.aload_n 0, 1) ∧ decode cX8_takesSize 58 = .ok (.getfield 26, 3) ∧ decode cX8_takesSize 61 = .ok (.iconst 2, 1) ∧ decode cX8_takesSize 62 = .ok (.bipush 53, 2) ∧ decode cX8_takesSize 64 = .ok (.aload_n 0, 1) ∧ decode cX8_takesSize 65 = .ok (.getfield 23, 3) ∧ decode cX8_takesSize 68 = .ok (.aload_n 0, 1) ∧ decode cX8_takesSize 69 = .ok (.getfield 169, 3) ∧ decode cX8_takesSize 72 = .ok (.iaload, 1) ∧ decode cX8_takesSize 73 = .ok (.isub, 1) ∧ decode cX8_takesSize 74 = .ok (.iastore, 1) ∧ decode cX8_takesSize 75 = .ok (.aload_n 0, 1) ∧ decode cX8_takesSize 76 = .ok (.dup, 1) ∧ decode cX8_takesSize 77 = .ok (.getfield 169, 3) ∧ decode cX8_takesSize 80 = .ok (.iconst 1, 1) ∧ decode cX8_takesSize 81 = .ok (.iadd, 1) ∧ decode cX8_takesSize 82 = .ok (.putfield 169, 3) ∧ decode cX8_takesSize 85 = .ok (.iconst 1, 1) ∧ decode cX8_takesSize 86 = .ok (.ireturn, 1) ∧ True := dq_of (l := (0, .aload_n 0, 1) :: (1, .iconst 4, 1) :: (2, .invokevirtual 201, 3) :: (5, .ifCond .eq 12, 3) :: (8, .aload_n 0, 1) :: (9, .getfield 26, 3) :: (12, .iconst 2, 1) :: (13, .iconst 3, 1) :: (14, .iastore, 1) :: (15, .iconst 1, 1) :: (16, .ireturn, 1) :: (17, .aload_n 0, 1) :: (18, .iconst 3, 1) :: (19, .invokevirtual 201, 3) :: (22, .ifCond .eq 33, 3) :: (25, .aload_n 0, 1) :: (26, .getfield 169, 3) :: (29, .aload_n 0, 1) :: (30, .getfield 166, 3) :: (33, .if_icmp .eq 22, 3) :: (36, .aload_n 0, 1) :: (37, .getfield 23, 3) :: (40, .aload_n 0, 1) :: (41, .getfield 169, 3) :: (44, .iaload, 1) :: (45, .bipush 51, 2) :: (47, .bipush 53, 2) :: (49, .invokestatic 32, 3) :: (52, .ifCond .ne 5, 3) :: (55, .iconst 0, 1) :: (56, .ireturn, 1) :: (57, .aload_n 0, 1) :: (58, .getfield 26, 3) :: (61, .iconst 2, 1) :: (62, .bipush 53, 2) :: (64, .aload_n 0, 1) :: (65, .getfield 23, 3) :: (68, .aload_n 0, 1) :: (69, .getfield 169, 3) :: (72, .iaload, 1) :: (73, .isub, 1) :: (74, .iastore, 1) :: (75, .aload_n 0, 1) :: (76, .dup, 1) :: (77, .getfield 169, 3) :: (80, .iconst 1, 1) :: (81, .iadd, 1) :: (82, .putfield 169, 3) :: (85, .iconst 1, 1) :: (86, .ireturn, 1) :: []) (by decide +kernel)
set_option maxRecDepth 100000 in
theorem D_X8_takesKind : decode cX8_takesKind 0 = .ok (.iconst 0, 1) ∧ decode cX8_takesKind 1 = .ok (.istore_n 1, 1) ∧ decode cX8_takesKind 2 = .ok (.iload_n 1, 1) ∧ decode cX8_takesKind 3 = .ok (.iconst 4, 1) ∧ decode cX8_takesKind 4 = .ok (.if_icmp .ge 28, 3) ∧ decode cX8_takesKind 7 = .ok (.aload_n 0, 1) ∧ decode cX8_takesKind 8 = .ok (.iconst 5, 1) ∧ decode cX8_takesKind 9 = .ok (.iload_n 1, 1) ∧ decode cX8_takesKind 10 = .ok (.iadd, 1) ∧ decode cX8_takesKind 11 = .ok (.invokevirtual 201, 3) ∧ decode cX8_takesKind 14 = .ok (.ifCond .eq 12, 3) ∧ decode cX8_takesKind 17 = .ok (.aload_n 0, 1) ∧ decode cX8_takesKind 18 = .ok (.getfield 26, 3) ∧ decode cX8_takesKind 21 = .ok (.iconst 3, 1) ∧ decode cX8_takesKind 22 = .ok (.iload_n 1, 1) ∧ decode cX8_takesKind 23 = .ok (.iastore, 1) ∧ decode cX8_takesKind 24 = .ok (.iconst 1, 1) ∧ decode cX8_takesKind 25 = .ok (.ireturn, 1) ∧ decode cX8_takesKind 26 = .ok (.iinc 1 1, 3) ∧ decode cX8_takesKind 29 = .ok (.goto (-27), 3) ∧ decode cX8_takesKind 32 = .ok (.iconst 0, 1) ∧ decode cX8_takesKind 33 = .ok (.ireturn, 1) ∧ True := dq_of (l := (0, .iconst 0, 1) :: (1, .istore_n 1, 1) :: (2, .iload_n 1, 1) :: (3, .iconst 4, 1) :: (4, .if_icmp .ge 28, 3) :: (7, .aload_n 0, 1) :: (8, .iconst 5, 1) :: (9, .iload_n 1, 1) :: (10, .iadd, 1) :: (11, .invokevirtual 201, 3) :: (14, .ifCond .eq 12, 3) :: (17, .aload_n 0, 1) :: (18, .getfield 26, 3) :: (21, .iconst 3, 1) :: (22, .iload_n 1, 1) :: (23, .iastore, 1) :: (24, .iconst 1, 1) :: (25, .ireturn, 1) :: (26, .iinc 1 1, 3) :: (29, .goto (-27), 3) :: (32, .iconst 0, 1) :: (33, .ireturn, 1) :: []) (by decide +kernel)
set_option maxRecDepth 100000 in
theorem D_X8_takesJob : decode cX8_takesJob 0 = .ok (.aload_n 0, 1) ∧ decode cX8_takesJob 1 = .ok (.iconst 0, 1) ∧ decode cX8_takesJob 2 = .ok (.bipush 112, 2) ∧ decode cX8_takesJob 4 = .ok (.invokevirtual 204, 3) ∧ decode cX8_takesJob 7 = .ok (.ifCond .eq 22, 3) ∧ decode cX8_takesJob 10 = .ok (.aload_n 0, 1) ∧ decode cX8_takesJob 11 = .ok (.bipush 32, 2) ∧ decode cX8_takesJob 13 = .ok (.invokevirtual 175, 3) ∧ decode cX8_takesJob 16 = .ok (.ifCond .eq 13, 3) ∧ decode cX8_takesJob 19 = .ok (.aload_n 0, 1) ∧ decode cX8_takesJob 20 = .ok (.iconst 1, 1) ∧ decode cX8_takesJob 21 = .ok (.bipush 99, 2) ∧ decode cX8_takesJob 23 = .ok (.invokevirtual 204, 3) ∧ decode cX8_takesJob 26 = .ok (.ifCond .ne 5, 3) ∧ decode cX8_takesJob 29 = .ok (.iconst 0, 1) ∧ decode cX8_takesJob 30 = .ok (.ireturn, 1) ∧ decode cX8_takesJob 31 = .ok (.aload_n 0, 1) ∧ decode cX8_takesJob 32 = .ok (.getfield 26, 3) ∧ decode cX8_takesJob 35 = .ok (.iconst 4, 1) ∧ decode cX8_takesJob 36 = .ok (.aload_n 0, 1) ∧ decode cX8_takesJob 37 = .ok (.iconst 0, 1) ∧ decode cX8_takesJob 38 = .ok (.invokevirtual 207, 3) ∧ decode cX8_takesJob 41 = .ok (.ifCond .eq 7, 3) ∧ decode cX8_takesJob 44 = .ok (.iconst 1, 1) ∧ decode cX8_takesJob 45 = .ok (.goto 4, 3) ∧ decode cX8_takesJob 48 = .ok (.iconst 0, 1) ∧ decode cX8_takesJob 49 = .ok (.iastore, 1) ∧ decode cX8_takesJob 50 = .ok (.aload_n 0, 1) ∧ decode cX8_takesJob 51 = .ok (.getfield 26, 3) ∧ decode cX8_takesJob 54 = .ok (.iconst 4, 1) ∧ decode cX8_takesJob 55 = .ok (.dup2, 1) ∧ decode cX8_takesJob 56 = .ok (.iaload, 1) ∧ decode cX8_takesJob 57 = .ok (.aload_n 0, 1) ∧ decode cX8_takesJob 58 = .ok (.iconst 1, 1) ∧ decode cX8_takesJob 59 = .ok (.invokevirtual 207, 3) ∧ decode cX8_takesJob 62 = .ok (.ifCond .eq 7, 3) ∧ decode cX8_takesJob 65 = .ok (.iconst 2, 1) ∧ decode cX8_takesJob 66 = .ok (.goto 4, 3) ∧ decode cX8_takesJob 69 = .ok (.iconst 0, 1) ∧ decode cX8_takesJob 70 = .ok (.iadd, 1) ∧ decode cX8_takesJob 71 = .ok (.iastore, 1) ∧ decode cX8_takesJob 72 = .ok (.aload_n 0, 1) ∧ decode cX8_takesJob 73 = .ok (.iconst 2, 1) ∧ decode cX8_takesJob 74 = .ok (.invokevirtual 207, 3) ∧ decode cX8_takesJob 77 = .ok (.ifCond .eq 57, 3) ∧ decode cX8_takesJob 80 = .ok (.aload_n 0, 1) ∧ decode cX8_takesJob 81 = .ok (.bipush 49, 2) ∧ decode cX8_takesJob 83 = .ok (.invokevirtual 172, 3) ∧ decode cX8_takesJob 86 = .ok (.ifCond .ne 14, 3) ∧ decode cX8_takesJob 89 = .ok (.aload_n 0, 1) ∧ decode cX8_takesJob 90 = .ok (.bipush 50, 2) ∧ decode cX8_takesJob 92 = .ok (.invokevirtual 172, 3) ∧ decode cX8_takesJob 95 = .ok (.ifCond .ne 5, 3) ∧ decode cX8_takesJob 98 = .ok (.iconst 0, 1) ∧ decode cX8_takesJob 99 = .ok (.ireturn, 1) ∧ decode cX8_takesJob 100 = .ok (.aload_n 0, 1) ∧ decode cX8_takesJob 101 = .ok (.getfield 26, 3) ∧ decode cX8_takesJob 104 = .ok (.iconst 4, 1) ∧ decode cX8_takesJob 105 = .ok (.dup2, 1) ∧ decode cX8_takesJob 106 = .ok (.iaload, 1) ∧ decode cX8_takesJob 107 = .ok (.aload_n 0, 1) ∧ decode cX8_takesJob 108 = .ok (.bipush 49, 2) ∧ decode cX8_takesJob 110 = .ok (.invokevirtual 172, 3) ∧ decode cX8_takesJob 113 = .ok (.ifCond .eq 7, 3) ∧ decode cX8_takesJob 116 = .ok (.iconst 4, 1) ∧ decode cX8_takesJob 117 = .ok (.goto 5, 3) ∧ decode cX8_takesJob 120 = .ok (.bipush 8, 2) ∧ decode cX8_takesJob 122 = .ok (.iadd, 1) ∧ decode cX8_takesJob 123 = .ok (.iastore, 1) ∧ decode cX8_takesJob 124 = .ok (.aload_n 0, 1) ∧ decode cX8_takesJob 125 = .ok (.dup, 1) ∧ decode cX8_takesJob 126 = .ok (.getfield 169, 3) ∧ decode cX8_takesJob 129 = .ok (.iconst 1, 1) ∧ decode cX8_takesJob 130 = .ok (.iadd, 1) ∧ decode cX8_takesJob 131 = .ok (.putfield 169, 3) ∧ decode cX8_takesJob 134 = .ok (.aload_n 0, 1) ∧ decode cX8_takesJob 135 = .ok (.bipush 32, 2) ∧ decode cX8_takesJob 137 = .ok (.invokevirtual 175, 3) ∧ decode cX8_takesJob 140 = .ok (.ifCond .eq 39, 3) ∧ decode cX8_takesJob 143 = .ok (.aload_n 0, 1) ∧ decode cX8_takesJob 144 = .ok (.invokevirtual 210, 3) ∧ decode cX8_takesJob 147 = .ok (.ifCond .eq 32, 3) ∧ decode cX8_takesJob 150 = .ok (.aload_n 0, 1) ∧ decode cX8_takesJob 151 = .ok (.bipush 32, 2) ∧ decode cX8_takesJob 153 = .ok (.invokevirtual 175, 3) ∧ decode cX8_takesJob 156 = .ok (.ifCond .eq 23, 3) ∧ decode cX8_takesJob 159 = .ok (.aload_n 0, 1) ∧ decode cX8_takesJob 160 = .ok (.invokevirtual 214, 3) ∧ decode cX8_takesJob 163 = .ok (.ifCond .eq 16, 3) ∧ decode cX8_takesJob 166 = .ok (.aload_n 0, 1) ∧ decode cX8_takesJob 167 = .ok (.bipush 59, 2) ∧ decode cX8_takesJob 169 = .ok (.invokevirtual 175, 3) ∧ decode cX8_takesJob 172 = .ok (.ifCond .eq 7, 3) ∧ decode cX8_takesJob 175 = .ok (.iconst 1, 1) ∧ decode cX8_takesJob 176 = .ok (.goto 4, 3) ∧ decode cX8_takesJob 179 = .ok (.iconst 0, 1) ∧ decode cX8_takesJob 180 = .ok (.ireturn, 1) ∧ True := dq_of (l := (0, .aload_n 0, 1) :: (1, .iconst 0, 1) :: (2, .bipush 112, 2) :: (4, .invokevirtual 204, 3) :: (7, .ifCond .eq 22, 3) :: (10, .aload_n 0, 1) :: (11, .bipush 32, 2) :: (13, .invokevirtual 175, 3) :: (16, .ifCond .eq 13, 3) :: (19, .aload_n 0, 1) :: (20, .iconst 1, 1) :: (21, .bipush 99, 2) :: (23, .invokevirtual 204, 3) :: (26, .ifCond .ne 5, 3) :: (29, .iconst 0, 1) :: (30, .ireturn, 1) :: (31, .aload_n 0, 1) :: (32, .getfield 26, 3) :: (35, .iconst 4, 1) :: (36, .aload_n 0, 1) :: (37, .iconst 0, 1) :: (38, .invokevirtual 207, 3) :: (41, .ifCond .eq 7, 3) :: (44, .iconst 1, 1) :: (45, .goto 4, 3) :: (48, .iconst 0, 1) :: (49, .iastore, 1) :: (50, .aload_n 0, 1) :: (51, .getfield 26, 3) :: (54, .iconst 4, 1) :: (55, .dup2, 1) :: (56, .iaload, 1) :: (57, .aload_n 0, 1) :: (58, .iconst 1, 1) :: (59, .invokevirtual 207, 3) :: (62, .ifCond .eq 7, 3) :: (65, .iconst 2, 1) :: (66, .goto 4, 3) :: (69, .iconst 0, 1) :: (70, .iadd, 1) :: (71, .iastore, 1) :: (72, .aload_n 0, 1) :: (73, .iconst 2, 1) :: (74, .invokevirtual 207, 3) :: (77, .ifCond .eq 57, 3) :: (80, .aload_n 0, 1) :: (81, .bipush 49, 2) :: (83, .invokevirtual 172, 3) :: (86, .ifCond .ne 14, 3) :: (89, .aload_n 0, 1) :: (90, .bipush 50, 2) :: (92, .invokevirtual 172, 3) :: (95, .ifCond .ne 5, 3) :: (98, .iconst 0, 1) :: (99, .ireturn, 1) :: (100, .aload_n 0, 1) :: (101, .getfield 26, 3) :: (104, .iconst 4, 1) :: (105, .dup2, 1) :: (106, .iaload, 1) :: (107, .aload_n 0, 1) :: (108, .bipush 49, 2) :: (110, .invokevirtual 172, 3) :: (113, .ifCond .eq 7, 3) :: (116, .iconst 4, 1) :: (117, .goto 5, 3) :: (120, .bipush 8, 2) :: (122, .iadd, 1) :: (123, .iastore, 1) :: (124, .aload_n 0, 1) :: (125, .dup, 1) :: (126, .getfield 169, 3) :: (129, .iconst 1, 1) :: (130, .iadd, 1) :: (131, .putfield 169, 3) :: (134, .aload_n 0, 1) :: (135, .bipush 32, 2) :: (137, .invokevirtual 175, 3) :: (140, .ifCond .eq 39, 3) :: (143, .aload_n 0, 1) :: (144, .invokevirtual 210, 3) :: (147, .ifCond .eq 32, 3) :: (150, .aload_n 0, 1) :: (151, .bipush 32, 2) :: (153, .invokevirtual 175, 3) :: (156, .ifCond .eq 23, 3) :: (159, .aload_n 0, 1) :: (160, .invokevirtual 214, 3) :: (163, .ifCond .eq 16, 3) :: (166, .aload_n 0, 1) :: (167, .bipush 59, 2) :: (169, .invokevirtual 175, 3) :: (172, .ifCond .eq 7, 3) :: (175, .iconst 1, 1) :: (176, .goto 4, 3) :: (179, .iconst 0, 1) :: (180, .ireturn, 1) :: []) (by decide +kernel)
set_option maxRecDepth 100000 in
theorem D_X8_hasFault : decode cX8_hasFault 0 = .ok (.aload_n 0, 1) ∧ decode cX8_hasFault 1 = .ok (.iconst 0, 1) ∧ decode cX8_hasFault 2 = .ok (.putfield 169, 3) ∧ decode cX8_hasFault 5 = .ok (.aload_n 0, 1) ∧ decode cX8_hasFault 6 = .ok (.iconst 0, 1) ∧ decode cX8_hasFault 7 = .ok (.putfield 217, 3) ∧ decode cX8_hasFault 10 = .ok (.aload_n 0, 1) ∧ decode cX8_hasFault 11 = .ok (.getfield 169, 3) ∧ decode cX8_hasFault 14 = .ok (.aload_n 0, 1) ∧ decode cX8_hasFault 15 = .ok (.getfield 166, 3) ∧ decode cX8_hasFault 18 = .ok (.if_icmp .ge 127, 3) ∧ decode cX8_hasFault 21 = .ok (.aload_n 0, 1) ∧ decode cX8_hasFault 22 = .ok (.getfield 169, 3) ∧ decode cX8_hasFault 25 = .ok (.istore_n 1, 1) ∧ decode cX8_hasFault 26 = .ok (.aload_n 0, 1) ∧ decode cX8_hasFault 27 = .ok (.invokevirtual 220, 3) ∧ decode cX8_hasFault 30 = .ok (.ifCond .ne 7, 3) ∧ decode cX8_hasFault 33 = .ok (.iconst 1, 1) ∧ decode cX8_hasFault 34 = .ok (.goto 81, 3) ∧ decode cX8_hasFault 37 = .ok (.aload_n 0, 1) ∧ decode cX8_hasFault 38 = .ok (.getfield 26, 3) ∧ decode cX8_hasFault 41 = .ok (.iconst 0, 1) ∧ decode cX8_hasFault 42 = .ok (.iaload, 1) ∧ decode cX8_hasFault 43 = .ok (.invokestatic 70, 3) ∧ decode cX8_hasFault 46 = .ok (.ifCond .eq 15, 3) ∧ decode cX8_hasFault 49 = .ok (.aload_n 0, 1) ∧ decode cX8_hasFault 50 = .ok (.getfield 26, 3) ∧ decode cX8_hasFault 53 = .ok (.iconst 1, 1) ∧ decode cX8_hasFault 54 = .ok (.iaload, 1) ∧ decode cX8_hasFault 55 = .ok (.invokestatic 73, 3) ∧ decode cX8_hasFault 58 = .ok (.ifCond .ne 7, 3) ∧ decode cX8_hasFault 61 = .ok (.iconst 2, 1) ∧ decode cX8_hasFault 62 = .ok (.goto 53, 3) ∧ decode cX8_hasFault 65 = .ok (.aload_n 0, 1) ∧ decode cX8_hasFault 66 = .ok (.aload_n 0, 1) ∧ decode cX8_hasFault 67 = .ok (.getfield 26, 3) ∧ decode cX8_hasFault 70 = .ok (.iconst 0, 1) ∧ decode cX8_hasFault 71 = .ok (.iaload, 1) ∧ decode cX8_hasFault 72 = .ok (.aload_n 0, 1) ∧ decode cX8_hasFault 73 = .ok (.getfield 26, 3) ∧ decode cX8_hasFault 76 = .ok (.iconst 3, 1) ∧ decode cX8_hasFault 77 = .ok (.iaload, 1) ∧ decode cX8_hasFault 78 = .ok (.aload_n 0, 1) ∧ decode cX8_hasFault 79 = .ok (.getfield 26, 3) ∧ decode cX8_hasFault 82 = .ok (.iconst 4, 1) ∧ decode cX8_hasFault 83 = .ok (.iaload, 1) ∧ decode cX8_hasFault 84 = .ok (.invokevirtual 76, 3) ∧ decode cX8_hasFault 87 = .ok (.ifCond .le 7, 3) ∧ decode cX8_hasFault 90 = .ok (.iconst 3, 1) ∧ decode cX8_hasFault 91 = .ok (.goto 24, 3) ∧ decode cX8_hasFault 94 = .ok (.aload_n 0, 1) ∧ decode cX8_hasFault 95 = .ok (.getfield 7, 3) ∧ decode cX8_hasFault 98 = .ok (.iconst 0, 1) ∧ decode cX8_hasFault 99 = .ok (.iaload, 1) ∧ decode cX8_hasFault 100 = .ok (.aload_n 0, 1) ∧ decode cX8_hasFault 101 = .ok (.getfield 217, 3) ∧ decode cX8_hasFault 104 = .ok (.iadd, 1) ∧ decode cX8_hasFault 105 = .ok (.bipush 10, 2) ∧ decode cX8_hasFault 107 = .ok (.if_icmp .lt 7, 3) ∧ decode cX8_hasFault 110 = .ok (.iconst 4, 1) ∧ decode cX8_hasFault 111 = .ok (.goto 4, 3) ∧ decode cX8_hasFault 114 = .ok (.iconst 0, 1) ∧ decode cX8_hasFault 115 = .ok (.istore_n 2, 1) ∧ decode cX8_hasFault 116 = .ok (.iload_n 2, 1) ∧ decode cX8_hasFault 117 = .ok (.ifCond .le 15, 3) ∧ decode cX8_hasFault 120 = .ok (.aload_n 0, 1) ∧ decode cX8_hasFault 121 = .ok (.iload_n 1, 1) ∧ decode cX8_hasFault 122 = .ok (.putfield 223, 3) ∧ decode cX8_hasFault 125 = .ok (.aload_n 0, 1) ∧ decode cX8_hasFault 126 = .ok (.iload_n 2, 1) ∧ decode cX8_hasFault 127 = .ok (.putfield 226, 3) ∧ decode cX8_hasFault 130 = .ok (.iconst 1, 1) ∧ decode cX8_hasFault 131 = .ok (.ireturn, 1) ∧ decode cX8_hasFault 132 = .ok (.aload_n 0, 1) ∧ decode cX8_hasFault 133 = .ok (.dup, 1) ∧ decode cX8_hasFault 134 = .ok (.getfield 217, 3) ∧ decode cX8_hasFault 137 = .ok (.iconst 1, 1) ∧ decode cX8_hasFault 138 = .ok (.iadd, 1) ∧ decode cX8_hasFault 139 = .ok (.putfield 217, 3) ∧ decode cX8_hasFault 142 = .ok (.goto (-132), 3) ∧ decode cX8_hasFault 145 = .ok (.iconst 0, 1) ∧ decode cX8_hasFault 146 = .ok (.ireturn, 1) ∧ True := dq_of (l := (0, .aload_n 0, 1) :: (1, .iconst 0, 1) :: (2, .putfield 169, 3) :: (5, .aload_n 0, 1) :: (6, .iconst 0, 1) :: (7, .putfield 217, 3) :: (10, .aload_n 0, 1) :: (11, .getfield 169, 3) :: (14, .aload_n 0, 1) :: (15, .getfield 166, 3) :: (18, .if_icmp .ge 127, 3) :: (21, .aload_n 0, 1) :: (22, .getfield 169, 3) :: (25, .istore_n 1, 1) :: (26, .aload_n 0, 1) :: (27, .invokevirtual 220, 3) :: (30, .ifCond .ne 7, 3) :: (33, .iconst 1, 1) :: (34, .goto 81, 3) :: (37, .aload_n 0, 1) :: (38, .getfield 26, 3) :: (41, .iconst 0, 1) :: (42, .iaload, 1) :: (43, .invokestatic 70, 3) :: (46, .ifCond .eq 15, 3) :: (49, .aload_n 0, 1) :: (50, .getfield 26, 3) :: (53, .iconst 1, 1) :: (54, .iaload, 1) :: (55, .invokestatic 73, 3) :: (58, .ifCond .ne 7, 3) :: (61, .iconst 2, 1) :: (62, .goto 53, 3) :: (65, .aload_n 0, 1) :: (66, .aload_n 0, 1) :: (67, .getfield 26, 3) :: (70, .iconst 0, 1) :: (71, .iaload, 1) :: (72, .aload_n 0, 1) :: (73, .getfield 26, 3) :: (76, .iconst 3, 1) :: (77, .iaload, 1) :: (78, .aload_n 0, 1) :: (79, .getfield 26, 3) :: (82, .iconst 4, 1) :: (83, .iaload, 1) :: (84, .invokevirtual 76, 3) :: (87, .ifCond .le 7, 3) :: (90, .iconst 3, 1) :: (91, .goto 24, 3) :: (94, .aload_n 0, 1) :: (95, .getfield 7, 3) :: (98, .iconst 0, 1) :: (99, .iaload, 1) :: (100, .aload_n 0, 1) :: (101, .getfield 217, 3) :: (104, .iadd, 1) :: (105, .bipush 10, 2) :: (107, .if_icmp .lt 7, 3) :: (110, .iconst 4, 1) :: (111, .goto 4, 3) :: (114, .iconst 0, 1) :: (115, .istore_n 2, 1) :: (116, .iload_n 2, 1) :: (117, .ifCond .le 15, 3) :: (120, .aload_n 0, 1) :: (121, .iload_n 1, 1) :: (122, .putfield 223, 3) :: (125, .aload_n 0, 1) :: (126, .iload_n 2, 1) :: (127, .putfield 226, 3) :: (130, .iconst 1, 1) :: (131, .ireturn, 1) :: (132, .aload_n 0, 1) :: (133, .dup, 1) :: (134, .getfield 217, 3) :: (137, .iconst 1, 1) :: (138, .iadd, 1) :: (139, .putfield 217, 3) :: (142, .goto (-132), 3) :: (145, .iconst 0, 1) :: (146, .ireturn, 1) :: []) (by decide +kernel)
set_option maxRecDepth 100000 in
theorem D_X8_fault : decode cX8_fault 0 = .ok (.iload_n 1, 1) ∧ decode cX8_fault 1 = .ok (.iconst 0, 1) ∧ decode cX8_fault 2 = .ok (.iconst 1, 1) ∧ decode cX8_fault 3 = .ok (.invokestatic 32, 3) ∧ decode cX8_fault 6 = .ok (.ifCond .ne 5, 3) ∧ decode cX8_fault 9 = .ok (.iconst (-1), 1) ∧ decode cX8_fault 10 = .ok (.ireturn, 1) ∧ decode cX8_fault 11 = .ok (.aload_n 0, 1) ∧ decode cX8_fault 12 = .ok (.invokevirtual 229, 3) ∧ decode cX8_fault 15 = .ok (.ifCond .ne 8, 3) ∧ decode cX8_fault 18 = .ok (.bipush (-4), 2) ∧ decode cX8_fault 20 = .ok (.goto 18, 3) ∧ decode cX8_fault 23 = .ok (.iload_n 1, 1) ∧ decode cX8_fault 24 = .ok (.ifCond .ne 10, 3) ∧ decode cX8_fault 27 = .ok (.aload_n 0, 1) ∧ decode cX8_fault 28 = .ok (.getfield 223, 3) ∧ decode cX8_fault 31 = .ok (.goto 7, 3) ∧ decode cX8_fault 34 = .ok (.aload_n 0, 1) ∧ decode cX8_fault 35 = .ok (.getfield 226, 3) ∧ decode cX8_fault 38 = .ok (.ireturn, 1) ∧ True := dq_of (l := (0, .iload_n 1, 1) :: (1, .iconst 0, 1) :: (2, .iconst 1, 1) :: (3, .invokestatic 32, 3) :: (6, .ifCond .ne 5, 3) :: (9, .iconst (-1), 1) :: (10, .ireturn, 1) :: (11, .aload_n 0, 1) :: (12, .invokevirtual 229, 3) :: (15, .ifCond .ne 8, 3) :: (18, .bipush (-4), 2) :: (20, .goto 18, 3) :: (23, .iload_n 1, 1) :: (24, .ifCond .ne 10, 3) :: (27, .aload_n 0, 1) :: (28, .getfield 223, 3) :: (31, .goto 7, 3) :: (34, .aload_n 0, 1) :: (35, .getfield 226, 3) :: (38, .ireturn, 1) :: []) (by decide +kernel)
set_option maxRecDepth 100000 in
theorem D_X8_enter : decode cX8_enter 0 = .ok (.aload_n 0, 1) ∧ decode cX8_enter 1 = .ok (.invokevirtual 229, 3) ∧ decode cX8_enter 4 = .ok (.ifCond .eq 6, 3) ∧ decode cX8_enter 7 = .ok (.bipush (-2), 2) ∧ decode cX8_enter 9 = .ok (.ireturn, 1) ∧ decode cX8_enter 10 = .ok (.aload_n 0, 1) ∧ decode cX8_enter 11 = .ok (.invokevirtual 40, 3) ∧ decode cX8_enter 14 = .ok (.aload_n 0, 1) ∧ decode cX8_enter 15 = .ok (.getfield 217, 3) ∧ decode cX8_enter 18 = .ok (.istore_n 1, 1) ∧ decode cX8_enter 19 = .ok (.aload_n 0, 1) ∧ decode cX8_enter 20 = .ok (.iconst 0, 1) ∧ decode cX8_enter 21 = .ok (.putfield 169, 3) ∧ decode cX8_enter 24 = .ok (.iconst 0, 1) ∧ decode cX8_enter 25 = .ok (.istore_n 2, 1) ∧ decode cX8_enter 26 = .ok (.iload_n 2, 1) ∧ decode cX8_enter 27 = .ok (.iload_n 1, 1) ∧ decode cX8_enter 28 = .ok (.if_icmp .ge 50, 3) ∧ decode cX8_enter 31 = .ok (.aload_n 0, 1) ∧ decode cX8_enter 32 = .ok (.invokevirtual 220, 3) ∧ decode cX8_enter 35 = .ok (.istore_n 3, 1) ∧ decode cX8_enter 36 = .ok (.aload_n 0, 1) ∧ decode cX8_enter 37 = .ok (.aload_n 0, 1) ∧ decode cX8_enter 38 = .ok (.getfield 26, 3) ∧ decode cX8_enter 41 = .ok (.iconst 0, 1) ∧ decode cX8_enter 42 = .ok (.iaload, 1) ∧ decode cX8_enter 43 = .ok (.aload_n 0, 1) ∧ decode cX8_enter 44 = .ok (.getfield 26, 3) ∧ decode cX8_enter 47 = .ok (.iconst 1, 1) ∧ decode cX8_enter 48 = .ok (.iaload, 1) ∧ decode cX8_enter 49 = .ok (.aload_n 0, 1) ∧ decode cX8_enter 50 = .ok (.getfield 26, 3) ∧ decode cX8_enter 53 = .ok (.iconst 2, 1) ∧ decode cX8_enter 54 = .ok (.iaload, 1) ∧ decode cX8_enter 55 = .ok (.aload_n 0, 1) ∧ decode cX8_enter 56 = .ok (.getfield 26, 3) ∧ decode cX8_enter 59 = .ok (.iconst 3, 1) ∧ decode cX8_enter 60 = .ok (.iaload, 1) ∧ decode cX8_enter 61 = .ok (.aload_n 0, 1) ∧ decode cX8_enter 62 = .ok (.getfield 26, 3) ∧ decode cX8_enter 65 = .ok (.iconst 4, 1) ∧ decode cX8_enter 66 = .ok (.iaload, 1) ∧ decode cX8_enter 67 = .ok (.invokevirtual 80, 3) ∧ decode cX8_enter 70 = .ok (.istore 4, 2) ∧ decode cX8_enter 72 = .ok (.iinc 2 1, 3) ∧ decode cX8_enter 75 = .ok (.goto (-49), 3) ∧ decode cX8_enter 78 = .ok (.iload_n 1, 1) ∧ decode cX8_enter 79 = .ok (.ireturn, 1) ∧ True := dq_of (l := (0, .aload_n 0, 1) :: (1, .invokevirtual 229, 3) :: (4, .ifCond .eq 6, 3) :: (7, .bipush (-2), 2) :: (9, .ireturn, 1) :: (10, .aload_n 0, 1) :: (11, .invokevirtual 40, 3) :: (14, .aload_n 0, 1) :: (15, .getfield 217, 3) :: (18, .istore_n 1, 1) :: (19, .aload_n 0, 1) :: (20, .iconst 0, 1) :: (21, .putfield 169, 3) :: (24, .iconst 0, 1) :: (25, .istore_n 2, 1) :: (26, .iload_n 2, 1) :: (27, .iload_n 1, 1) :: (28, .if_icmp .ge 50, 3) :: (31, .aload_n 0, 1) :: (32, .invokevirtual 220, 3) :: (35, .istore_n 3, 1) :: (36, .aload_n 0, 1) :: (37, .aload_n 0, 1) :: (38, .getfield 26, 3) :: (41, .iconst 0, 1) :: (42, .iaload, 1) :: (43, .aload_n 0, 1) :: (44, .getfield 26, 3) :: (47, .iconst 1, 1) :: (48, .iaload, 1) :: (49, .aload_n 0, 1) :: (50, .getfield 26, 3) :: (53, .iconst 2, 1) :: (54, .iaload, 1) :: (55, .aload_n 0, 1) :: (56, .getfield 26, 3) :: (59, .iconst 3, 1) :: (60, .iaload, 1) :: (61, .aload_n 0, 1) :: (62, .getfield 26, 3) :: (65, .iconst 4, 1) :: (66, .iaload, 1) :: (67, .invokevirtual 80, 3) :: (70, .istore 4, 2) :: (72, .iinc 2 1, 3) :: (75, .goto (-49), 3) :: (78, .iload_n 1, 1) :: (79, .ireturn, 1) :: []) (by decide +kernel)
set_option maxRecDepth 100000 in
theorem D_L_law : decode cL_law 0 = .ok (.new 7, 3) ∧ decode cL_law 3 = .ok (.dup, 1) ∧ decode cL_law 4 = .ok (.invokespecial 9, 3) ∧ decode cL_law 7 = .ok (.astore_n 1, 1) ∧ decode cL_law 8 = .ok (.new 10, 3) ∧ decode cL_law 11 = .ok (.dup, 1) ∧ decode cL_law 12 = .ok (.invokespecial 12, 3) ∧ decode cL_law 15 = .ok (.astore_n 2, 1) ∧ decode cL_law 16 = .ok (.iconst 0, 1) ∧ decode cL_law 17 = .ok (.istore_n 3, 1) ∧ decode cL_law 18 = .ok (.iload_n 3, 1) ∧ decode cL_law 19 = .ok (.aload_n 0, 1) ∧ decode cL_law 20 = .ok (.arraylength, 1) ∧ decode cL_law 21 = .ok (.bipush 6, 2) ∧ decode cL_law 23 = .ok (.isub, 1) ∧ decode cL_law 24 = .ok (.if_icmp .gt 785, 3) ∧ decode cL_law 27 = .ok (.aload_n 0, 1) ∧ decode cL_law 28 = .ok (.iload_n 3, 1) ∧ decode cL_law 29 = .ok (.iaload, 1) ∧ decode cL_law 30 = .ok (.bipush 31, 2) ∧ decode cL_law 32 = .ok (.iand, 1) ∧ decode cL_law 33 = .ok (.tableswitch 770 0 24 #[115, 148, 191, 224, 247, 260, 293, 356, 369, 402, 425, 458, 491, 514, 537, 550, 573, 596, 629, 662, 685, 698, 721, 734, 757], 115) ∧ decode cL_law 148 = .ok (.aload_n 1, 1) ∧ decode cL_law 149 = .ok (.aload_n 0, 1) ∧ decode cL_law 150 = .ok (.iload_n 3, 1) ∧ decode cL_law 151 = .ok (.iconst 1, 1) ∧ decode cL_law 152 = .ok (.iadd, 1) ∧ decode cL_law 153 = .ok (.iaload, 1) ∧ decode cL_law 154 = .ok (.aload_n 0, 1) ∧ decode cL_law 155 = .ok (.iload_n 3, 1) ∧ decode cL_law 156 = .ok (.iconst 2, 1) ∧ decode cL_law 157 = .ok (.iadd, 1) ∧ decode cL_law 158 = .ok (.iaload, 1) ∧ decode cL_law 159 = .ok (.invokevirtual 13, 3) ∧ decode cL_law 162 = .ok (.aload_n 2, 1) ∧ decode cL_law 163 = .ok (.aload_n 0, 1) ∧ decode cL_law 164 = .ok (.iload_n 3, 1) ∧ decode cL_law 165 = .ok (.iconst 1, 1) ∧ decode cL_law 166 = .ok (.iadd, 1) ∧ decode cL_law 167 = .ok (.iaload, 1) ∧ decode cL_law 168 = .ok (.aload_n 0, 1) ∧ decode cL_law 169 = .ok (.iload_n 3, 1) ∧ decode cL_law 170 = .ok (.iconst 2, 1) ∧ decode cL_law 171 = .ok (.iadd, 1) ∧ decode cL_law 172 = .ok (.iaload, 1) ∧ decode cL_law 173 = .ok (.invokevirtual 17, 3) ∧ decode cL_law 176 = .ok (.if_icmp .eq 627, 3) ∧ decode cL_law 179 = .ok (.iconst 0, 1) ∧ decode cL_law 180 = .ok (.ireturn, 1) ∧ decode cL_law 181 = .ok (.aload_n 1, 1) ∧ decode cL_law 182 = .ok (.aload_n 0, 1) ∧ decode cL_law 183 = .ok (.iload_n 3, 1) ∧ decode cL_law 184 = .ok (.iconst 1, 1) ∧ decode cL_law 185 = .ok (.iadd, 1) ∧ decode cL_law 186 = .ok (.iaload, 1) ∧ decode cL_law 187 = .ok (.aload_n 0, 1) ∧ decode cL_law 188 = .ok (.iload_n 3, 1) ∧ decode cL_law 189 = .ok (.iconst 2, 1) ∧ decode cL_law 190 = .ok (.iadd, 1) ∧ decode cL_law 191 = .ok (.iaload, 1) ∧ decode cL_law 192 = .ok (.aload_n 0, 1) ∧ decode cL_law 193 = .ok (.iload_n 3, 1) ∧ decode cL_law 194 = .ok (.iconst 3, 1) ∧ decode cL_law 195 = .ok (.iadd, 1) ∧ decode cL_law 196 = .ok (.iaload, 1) ∧ decode cL_law 197 = .ok (.invokevirtual 18, 3) ∧ decode cL_law 200 = .ok (.aload_n 2, 1) ∧ decode cL_law 201 = .ok (.aload_n 0, 1) ∧ decode cL_law 202 = .ok (.iload_n 3, 1) ∧ decode cL_law 203 = .ok (.iconst 1, 1) ∧ decode cL_law 204 = .ok (.iadd, 1) ∧ decode cL_law 205 = .ok (.iaload, 1) ∧ decode cL_law 206 = .ok (.aload_n 0, 1) ∧ decode cL_law 207 = .ok (.iload_n 3, 1) ∧ decode cL_law 208 = .ok (.iconst 2, 1) ∧ decode cL_law 209 = .ok (.iadd, 1) ∧ decode cL_law 210 = .ok (.iaload, 1) ∧ decode cL_law 211 = .ok (.aload_n 0, 1) ∧ decode cL_law 212 = .ok (.iload_n 3, 1) ∧ decode cL_law 213 = .ok (.iconst 3, 1) ∧ decode cL_law 214 = .ok (.iadd, 1) ∧ decode cL_law 215 = .ok (.iaload, 1) ∧ decode cL_law 216 = .ok (.invokevirtual 22, 3) ∧ decode cL_law 219 = .ok (.if_icmp .eq 584, 3) ∧ decode cL_law 222 = .ok (.iconst 0, 1) ∧ decode cL_law 223 = .ok (.ireturn, 1) ∧ decode cL_law 224 = .ok (.aload_n 1, 1) ∧ decode cL_law 225 = .ok (.aload_n 0, 1) ∧ decode cL_law 226 = .ok (.iload_n 3, 1) ∧ decode cL_law 227 = .ok (.iconst 1, 1) ∧ decode cL_law 228 = .ok (.iadd, 1) ∧ decode cL_law 229 = .ok (.iaload, 1) ∧ decode cL_law 230 = .ok (.aload_n 0, 1) ∧ decode cL_law 231 = .ok (.iload_n 3, 1) ∧ decode cL_law 232 = .ok (.iconst 2, 1) ∧ decode cL_law 233 = .ok (.iadd, 1) ∧ decode cL_law 234 = .ok (.iaload, 1) ∧ decode cL_law 235 = .ok (.invokevirtual 23, 3) ∧ decode cL_law 238 = .ok (.aload_n 2, 1) ∧ decode cL_law 239 = .ok (.aload_n 0, 1) ∧ decode cL_law 240 = .ok (.iload_n 3, 1) ∧ decode cL_law 241 = .ok (.iconst 1, 1) ∧ decode cL_law 242 = .ok (.iadd, 1) ∧ decode cL_law 243 = .ok (.iaload, 1) ∧ decode cL_law 244 = .ok (.aload_n 0, 1) ∧ decode cL_law 245 = .ok (.iload_n 3, 1) ∧ decode cL_law 246 = .ok (.iconst 2, 1) ∧ decode cL_law 247 = .ok (.iadd, 1) ∧ decode cL_law 248 = .ok (.iaload, 1) ∧ decode cL_law 249 = .ok (.invokevirtual 26, 3) ∧ decode cL_law 252 = .ok (.if_icmp .eq 551, 3) ∧ decode cL_law 255 = .ok (.iconst 0, 1) ∧ decode cL_law 256 = .ok (.ireturn, 1) ∧ decode cL_law 257 = .ok (.aload_n 1, 1) ∧ decode cL_law 258 = .ok (.aload_n 0, 1) ∧ decode cL_law 259 = .ok (.iload_n 3, 1) ∧ decode cL_law 260 = .ok (.iconst 1, 1) ∧ decode cL_law 261 = .ok (.iadd, 1) ∧ decode cL_law 262 = .ok (.iaload, 1) ∧ decode cL_law 263 = .ok (.invokevirtual 27, 3) ∧ decode cL_law 266 = .ok (.aload_n 2, 1) ∧ decode cL_law 267 = .ok (.aload_n 0, 1) ∧ decode cL_law 268 = .ok (.iload_n 3, 1) ∧ decode cL_law 269 = .ok (.iconst 1, 1) ∧ decode cL_law 270 = .ok (.iadd, 1) ∧ decode cL_law 271 = .ok (.iaload, 1) ∧ decode cL_law 272 = .ok (.invokevirtual 31, 3) ∧ decode cL_law 275 = .ok (.if_icmp .eq 528, 3) ∧ decode cL_law 278 = .ok (.iconst 0, 1) ∧ decode cL_law 279 = .ok (.ireturn, 1) ∧ decode cL_law 280 = .ok (.aload_n 1, 1) ∧ decode cL_law 281 = .ok (.invokevirtual 32, 3) ∧ decode cL_law 284 = .ok (.aload_n 2, 1) ∧ decode cL_law 285 = .ok (.invokevirtual 36, 3) ∧ decode cL_law 288 = .ok (.if_icmp .eq 515, 3) ∧ decode cL_law 291 = .ok (.iconst 0, 1) ∧ decode cL_law 292 = .ok (.ireturn, 1) ∧ decode cL_law 293 = .ok (.aload_n 1, 1) ∧ decode cL_law 294 = .ok (.aload_n 0, 1) ∧ decode cL_law 295 = .ok (.iload_n 3, 1) ∧ decode cL_law 296 = .ok (.iconst 1, 1) ∧ decode cL_law 297 = .ok (.iadd, 1) ∧ decode cL_law 298 = .ok (.iaload, 1) ∧ decode cL_law 299 = .ok (.aload_n 0, 1) ∧ decode cL_law 300 = .ok (.iload_n 3, 1) ∧ decode cL_law 301 = .ok (.iconst 2, 1) ∧ decode cL_law 302 = .ok (.iadd, 1) ∧ decode cL_law 303 = .ok (.iaload, 1) ∧ decode cL_law 304 = .ok (.invokevirtual 37, 3) ∧ decode cL_law 307 = .ok (.aload_n 2, 1) ∧ decode cL_law 308 = .ok (.aload_n 0, 1) ∧ decode cL_law 309 = .ok (.iload_n 3, 1) ∧ decode cL_law 310 = .ok (.iconst 1, 1) ∧ decode cL_law 311 = .ok (.iadd, 1) ∧ decode cL_law 312 = .ok (.iaload, 1) ∧ decode cL_law 313 = .ok (.aload_n 0, 1) ∧ decode cL_law 314 = .ok (.iload_n 3, 1) ∧ decode cL_law 315 = .ok (.iconst 2, 1) ∧ decode cL_law 316 = .ok (.iadd, 1) ∧ decode cL_law 317 = .ok (.iaload, 1) ∧ decode cL_law 318 = .ok (.invokevirtual 40, 3) ∧ decode cL_law 321 = .ok (.if_icmp .eq 482, 3) ∧ decode cL_law 324 = .ok (.iconst 0, 1) ∧ decode cL_law 325 = .ok (.ireturn, 1) ∧ decode cL_law 326 = .ok (.aload_n 1, 1) ∧ decode cL_law 327 = .ok (.aload_n 0, 1) ∧ decode cL_law 328 = .ok (.iload_n 3, 1) ∧ decode cL_law 329 = .ok (.iconst 1, 1) ∧ decode cL_law 330 = .ok (.iadd, 1) ∧ decode cL_law 331 = .ok (.iaload, 1) ∧ decode cL_law 332 = .ok (.aload_n 0, 1) ∧ decode cL_law 333 = .ok (.iload_n 3, 1) ∧ decode cL_law 334 = .ok (.iconst 2, 1) ∧ decode cL_law 335 = .ok (.iadd, 1) ∧ decode cL_law 336 = .ok (.iaload, 1) ∧ decode cL_law 337 = .ok (.aload_n 0, 1) ∧ decode cL_law 338 = .ok (.iload_n 3, 1) ∧ decode cL_law 339 = .ok (.iconst 3, 1) ∧ decode cL_law 340 = .ok (.iadd, 1) ∧ decode cL_law 341 = .ok (.iaload, 1) ∧ decode cL_law 342 = .ok (.aload_n 0, 1) ∧ decode cL_law 343 = .ok (.iload_n 3, 1) ∧ decode cL_law 344 = .ok (.iconst 4, 1) ∧ decode cL_law 345 = .ok (.iadd, 1) ∧ decode cL_law 346 = .ok (.iaload, 1) ∧ decode cL_law 347 = .ok (.aload_n 0, 1) ∧ decode cL_law 348 = .ok (.iload_n 3, 1) ∧ decode cL_law 349 = .ok (.iconst 5, 1) ∧ decode cL_law 350 = .ok (.iadd, 1) ∧ decode cL_law 351 = .ok (.iaload, 1) ∧ decode cL_law 352 = .ok (.invokevirtual 41, 3) ∧ decode cL_law 355 = .ok (.aload_n 2, 1) ∧ decode cL_law 356 = .ok (.aload_n 0, 1) ∧ decode cL_law 357 = .ok (.iload_n 3, 1) ∧ decode cL_law 358 = .ok (.iconst 1, 1) ∧ decode cL_law 359 = .ok (.iadd, 1) ∧ decode cL_law 360 = .ok (.iaload, 1) ∧ decode cL_law 361 = .ok (.aload_n 0, 1) ∧ decode cL_law 362 = .ok (.iload_n 3, 1) ∧ decode cL_law 363 = .ok (.iconst 2, 1) ∧ decode cL_law 364 = .ok (.iadd, 1) ∧ decode cL_law 365 = .ok (.iaload, 1) ∧ decode cL_law 366 = .ok (.aload_n 0, 1) ∧ decode cL_law 367 = .ok (.iload_n 3, 1) ∧ decode cL_law 368 = .ok (.iconst 3, 1) ∧ decode cL_law 369 = .ok (.iadd, 1) ∧ decode cL_law 370 = .ok (.iaload, 1) ∧ decode cL_law 371 = .ok (.aload_n 0, 1) ∧ decode cL_law 372 = .ok (.iload_n 3, 1) ∧ decode cL_law 373 = .ok (.iconst 4, 1) ∧ decode cL_law 374 = .ok (.iadd, 1) ∧ decode cL_law 375 = .ok (.iaload, 1) ∧ decode cL_law 376 = .ok (.aload_n 0, 1) ∧ decode cL_law 377 = .ok (.iload_n 3, 1) ∧ decode cL_law 378 = .ok (.iconst 5, 1) ∧ decode cL_law 379 = .ok (.iadd, 1) ∧ decode cL_law 380 = .ok (.iaload, 1) ∧ decode cL_law 381 = .ok (.invokevirtual 45, 3) ∧ decode cL_law 384 = .ok (.if_icmp .eq 419, 3) ∧ decode cL_law 387 = .ok (.iconst 0, 1) ∧ decode cL_law 388 = .ok (.ireturn, 1) ∧ decode cL_law 389 = .ok (.aload_n 1, 1) ∧ decode cL_law 390 = .ok (.invokevirtual 46, 3) ∧ decode cL_law 393 = .ok (.aload_n 2, 1) ∧ decode cL_law 394 = .ok (.invokevirtual 49, 3) ∧ decode cL_law 397 = .ok (.if_icmp .eq 406, 3) ∧ decode cL_law 400 = .ok (.iconst 0, 1) ∧ decode cL_law 401 = .ok (.ireturn, 1) ∧ decode cL_law 402 = .ok (.aload_n 1, 1) ∧ decode cL_law 403 = .ok (.aload_n 0, 1) ∧ decode cL_law 404 = .ok (.iload_n 3, 1) ∧ decode cL_law 405 = .ok (.iconst 1, 1) ∧ decode cL_law 406 = .ok (.iadd, 1) ∧ decode cL_law 407 = .ok (.iaload, 1) ∧ decode cL_law 408 = .ok (.aload_n 0, 1) ∧ decode cL_law 409 = .ok (.iload_n 3, 1) ∧ decode cL_law 410 = .ok (.iconst 2, 1) ∧ decode cL_law 411 = .ok (.iadd, 1) ∧ decode cL_law 412 = .ok (.iaload, 1) ∧ decode cL_law 413 = .ok (.invokevirtual 50, 3) ∧ decode cL_law 416 = .ok (.aload_n 2, 1) ∧ decode cL_law 417 = .ok (.aload_n 0, 1) ∧ decode cL_law 418 = .ok (.iload_n 3, 1) ∧ decode cL_law 419 = .ok (.iconst 1, 1) ∧ decode cL_law 420 = .ok (.iadd, 1) ∧ decode cL_law 421 = .ok (.iaload, 1) ∧ decode cL_law 422 = .ok (.aload_n 0, 1) ∧ decode cL_law 423 = .ok (.iload_n 3, 1) ∧ decode cL_law 424 = .ok (.iconst 2, 1) ∧ decode cL_law 425 = .ok (.iadd, 1) ∧ decode cL_law 426 = .ok (.iaload, 1) ∧ decode cL_law 427 = .ok (.invokevirtual 53, 3) ∧ decode cL_law 430 = .ok (.if_icmp .eq 373, 3) ∧ decode cL_law 433 = .ok (.iconst 0, 1) ∧ decode cL_law 434 = .ok (.ireturn, 1) ∧ decode cL_law 435 = .ok (.aload_n 1, 1) ∧ decode cL_law 436 = .ok (.aload_n 0, 1) ∧ decode cL_law 437 = .ok (.iload_n 3, 1) ∧ decode cL_law 438 = .ok (.iconst 1, 1) ∧ decode cL_law 439 = .ok (.iadd, 1) ∧ decode cL_law 440 = .ok (.iaload, 1) ∧ decode cL_law 441 = .ok (.invokevirtual 54, 3) ∧ decode cL_law 444 = .ok (.aload_n 2, 1) ∧ decode cL_law 445 = .ok (.aload_n 0, 1) ∧ decode cL_law 446 = .ok (.iload_n 3, 1) ∧ decode cL_law 447 = .ok (.iconst 1, 1) ∧ decode cL_law 448 = .ok (.iadd, 1) ∧ decode cL_law 449 = .ok (.iaload, 1) ∧ decode cL_law 450 = .ok (.invokevirtual 57, 3) ∧ decode cL_law 453 = .ok (.if_icmp .eq 350, 3) ∧ decode cL_law 456 = .ok (.iconst 0, 1) ∧ decode cL_law 457 = .ok (.ireturn, 1) ∧ decode cL_law 458 = .ok (.aload_n 1, 1) ∧ decode cL_law 459 = .ok (.aload_n 0, 1) ∧ decode cL_law 460 = .ok (.iload_n 3, 1) ∧ decode cL_law 461 = .ok (.iconst 1, 1) ∧ decode cL_law 462 = .ok (.iadd, 1) ∧ decode cL_law 463 = .ok (.iaload, 1) ∧ decode cL_law 464 = .ok (.aload_n 0, 1) ∧ decode cL_law 465 = .ok (.iload_n 3, 1) ∧ decode cL_law 466 = .ok (.iconst 2, 1) ∧ decode cL_law 467 = .ok (.iadd, 1) ∧ decode cL_law 468 = .ok (.iaload, 1) ∧ decode cL_law 469 = .ok (.invokevirtual 58, 3) ∧ decode cL_law 472 = .ok (.aload_n 2, 1) ∧ decode cL_law 473 = .ok (.aload_n 0, 1) ∧ decode cL_law 474 = .ok (.iload_n 3, 1) ∧ decode cL_law 475 = .ok (.iconst 1, 1) ∧ decode cL_law 476 = .ok (.iadd, 1) ∧ decode cL_law 477 = .ok (.iaload, 1) ∧ decode cL_law 478 = .ok (.aload_n 0, 1) ∧ decode cL_law 479 = .ok (.iload_n 3, 1) ∧ decode cL_law 480 = .ok (.iconst 2, 1) ∧ decode cL_law 481 = .ok (.iadd, 1) ∧ decode cL_law 482 = .ok (.iaload, 1) ∧ decode cL_law 483 = .ok (.invokevirtual 61, 3) ∧ decode cL_law 486 = .ok (.if_icmp .eq 317, 3) ∧ decode cL_law 489 = .ok (.iconst 0, 1) ∧ decode cL_law 490 = .ok (.ireturn, 1) ∧ decode cL_law 491 = .ok (.aload_n 1, 1) ∧ decode cL_law 492 = .ok (.aload_n 0, 1) ∧ decode cL_law 493 = .ok (.iload_n 3, 1) ∧ decode cL_law 494 = .ok (.iconst 1, 1) ∧ decode cL_law 495 = .ok (.iadd, 1) ∧ decode cL_law 496 = .ok (.iaload, 1) ∧ decode cL_law 497 = .ok (.aload_n 0, 1) ∧ decode cL_law 498 = .ok (.iload_n 3, 1) ∧ decode cL_law 499 = .ok (.iconst 2, 1) ∧ decode cL_law 500 = .ok (.iadd, 1) ∧ decode cL_law 501 = .ok (.iaload, 1) ∧ decode cL_law 502 = .ok (.invokevirtual 62, 3) ∧ decode cL_law 505 = .ok (.aload_n 2, 1) ∧ decode cL_law 506 = .ok (.aload_n 0, 1) ∧ decode cL_law 507 = .ok (.iload_n 3, 1) ∧ decode cL_law 508 = .ok (.iconst 1, 1) ∧ decode cL_law 509 = .ok (.iadd, 1) ∧ decode cL_law 510 = .ok (.iaload, 1) ∧ decode cL_law 511 = .ok (.aload_n 0, 1) ∧ decode cL_law 512 = .ok (.iload_n 3, 1) ∧ decode cL_law 513 = .ok (.iconst 2, 1) ∧ decode cL_law 514 = .ok (.iadd, 1) ∧ decode cL_law 515 = .ok (.iaload, 1) ∧ decode cL_law 516 = .ok (.invokevirtual 65, 3) ∧ decode cL_law 519 = .ok (.if_icmp .eq 284, 3) ∧ decode cL_law 522 = .ok (.iconst 0, 1) ∧ decode cL_law 523 = .ok (.ireturn, 1) ∧ decode cL_law 524 = .ok (.aload_n 1, 1) ∧ decode cL_law 525 = .ok (.aload_n 0, 1) ∧ decode cL_law 526 = .ok (.iload_n 3, 1) ∧ decode cL_law 527 = .ok (.iconst 1, 1) ∧ decode cL_law 528 = .ok (.iadd, 1) ∧ decode cL_law 529 = .ok (.iaload, 1) ∧ decode cL_law 530 = .ok (.invokevirtual 66, 3) ∧ decode cL_law 533 = .ok (.aload_n 2, 1) ∧ decode cL_law 534 = .ok (.aload_n 0, 1) ∧ decode cL_law 535 = .ok (.iload_n 3, 1) ∧ decode cL_law 536 = .ok (.iconst 1, 1) ∧ decode cL_law 537 = .ok (.iadd, 1) ∧ decode cL_law 538 = .ok (.iaload, 1) ∧ decode cL_law 539 = .ok (.invokevirtual 69, 3) ∧ decode cL_law 542 = .ok (.if_icmp .eq 261, 3) ∧ decode cL_law 545 = .ok (.iconst 0, 1) ∧ decode cL_law 546 = .ok (.ireturn, 1) ∧ decode cL_law 547 = .ok (.aload_n 1, 1) ∧ decode cL_law 548 = .ok (.aload_n 0, 1) ∧ decode cL_law 549 = .ok (.iload_n 3, 1) ∧ decode cL_law 550 = .ok (.iconst 1, 1) ∧ decode cL_law 551 = .ok (.iadd, 1) ∧ decode cL_law 552 = .ok (.iaload, 1) ∧ decode cL_law 553 = .ok (.invokevirtual 70, 3) ∧ decode cL_law 556 = .ok (.aload_n 2, 1) ∧ decode cL_law 557 = .ok (.aload_n 0, 1) ∧ decode cL_law 558 = .ok (.iload_n 3, 1) ∧ decode cL_law 559 = .ok (.iconst 1, 1) ∧ decode cL_law 560 = .ok (.iadd, 1) ∧ decode cL_law 561 = .ok (.iaload, 1) ∧ decode cL_law 562 = .ok (.invokevirtual 73, 3) ∧ decode cL_law 565 = .ok (.if_icmp .eq 238, 3) ∧ decode cL_law 568 = .ok (.iconst 0, 1) ∧ decode cL_law 569 = .ok (.ireturn, 1) ∧ decode cL_law 570 = .ok (.aload_n 1, 1) ∧ decode cL_law 571 = .ok (.invokevirtual 74, 3) ∧ decode cL_law 574 = .ok (.aload_n 2, 1) ∧ decode cL_law 575 = .ok (.invokevirtual 77, 3) ∧ decode cL_law 578 = .ok (.if_icmp .eq 225, 3) ∧ decode cL_law 581 = .ok (.iconst 0, 1) ∧ decode cL_law 582 = .ok (.ireturn, 1) ∧ decode cL_law 583 = .ok (.aload_n 1, 1) ∧ decode cL_law 584 = .ok (.aload_n 0, 1) ∧ decode cL_law 585 = .ok (.iload_n 3, 1) ∧ decode cL_law 586 = .ok (.iconst 1, 1) ∧ decode cL_law 587 = .ok (.iadd, 1) ∧ decode cL_law 588 = .ok (.iaload, 1) ∧ decode cL_law 589 = .ok (.invokevirtual 78, 3) ∧ decode cL_law 592 = .ok (.aload_n 2, 1) ∧ decode cL_law 593 = .ok (.aload_n 0, 1) ∧ decode cL_law 594 = .ok (.iload_n 3, 1) ∧ decode cL_law 595 = .ok (.iconst 1, 1) ∧ decode cL_law 596 = .ok (.iadd, 1) ∧ decode cL_law 597 = .ok (.iaload, 1) ∧ decode cL_law 598 = .ok (.invokevirtual 81, 3) ∧ decode cL_law 601 = .ok (.if_icmp .eq 202, 3) ∧ decode cL_law 604 = .ok (.iconst 0, 1) ∧ decode cL_law 605 = .ok (.ireturn, 1) ∧ decode cL_law 606 = .ok (.aload_n 1, 1) ∧ decode cL_law 607 = .ok (.aload_n 0, 1) ∧ decode cL_law 608 = .ok (.iload_n 3, 1) ∧ decode cL_law 609 = .ok (.iconst 1, 1) ∧ decode cL_law 610 = .ok (.iadd, 1) ∧ decode cL_law 611 = .ok (.iaload, 1) ∧ decode cL_law 612 = .ok (.invokevirtual 82, 3) ∧ decode cL_law 615 = .ok (.aload_n 2, 1) ∧ decode cL_law 616 = .ok (.aload_n 0, 1) ∧ decode cL_law 617 = .ok (.iload_n 3, 1) ∧ decode cL_law 618 = .ok (.iconst 1, 1) ∧ decode cL_law 619 = .ok (.iadd, 1) ∧ decode cL_law 620 = .ok (.iaload, 1) ∧ decode cL_law 621 = .ok (.invokevirtual 85, 3) ∧ decode cL_law 624 = .ok (.if_icmp .eq 179, 3) ∧ decode cL_law 627 = .ok (.iconst 0, 1) ∧ decode cL_law 628 = .ok (.ireturn, 1) ∧ decode cL_law 629 = .ok (.aload_n 1, 1) ∧ decode cL_law 630 = .ok (.aload_n 0, 1) ∧ decode cL_law 631 = .ok (.iload_n 3, 1) ∧ decode cL_law 632 = .ok (.iconst 1, 1) ∧ decode cL_law 633 = .ok (.iadd, 1) ∧ decode cL_law 634 = .ok (.iaload, 1) ∧ decode cL_law 635 = .ok (.aload_n 0, 1) ∧ decode cL_law 636 = .ok (.iload_n 3, 1) ∧ decode cL_law 637 = .ok (.iconst 2, 1) ∧ decode cL_law 638 = .ok (.iadd, 1) ∧ decode cL_law 639 = .ok (.iaload, 1) ∧ decode cL_law 640 = .ok (.invokevirtual 86, 3) ∧ decode cL_law 643 = .ok (.aload_n 2, 1) ∧ decode cL_law 644 = .ok (.aload_n 0, 1) ∧ decode cL_law 645 = .ok (.iload_n 3, 1) ∧ decode cL_law 646 = .ok (.iconst 1, 1) ∧ decode cL_law 647 = .ok (.iadd, 1) ∧ decode cL_law 648 = .ok (.iaload, 1) ∧ decode cL_law 649 = .ok (.aload_n 0, 1) ∧ decode cL_law 650 = .ok (.iload_n 3, 1) ∧ decode cL_law 651 = .ok (.iconst 2, 1) ∧ decode cL_law 652 = .ok (.iadd, 1) ∧ decode cL_law 653 = .ok (.iaload, 1) ∧ decode cL_law 654 = .ok (.invokevirtual 89, 3) ∧ decode cL_law 657 = .ok (.if_icmp .eq 146, 3) ∧ decode cL_law 660 = .ok (.iconst 0, 1) ∧ decode cL_law 661 = .ok (.ireturn, 1) ∧ decode cL_law 662 = .ok (.aload_n 1, 1) ∧ decode cL_law 663 = .ok (.aload_n 0, 1) ∧ decode cL_law 664 = .ok (.iload_n 3, 1) ∧ decode cL_law 665 = .ok (.iconst 1, 1) ∧ decode cL_law 666 = .ok (.iadd, 1) ∧ decode cL_law 667 = .ok (.iaload, 1) ∧ decode cL_law 668 = .ok (.aload_n 0, 1) ∧ decode cL_law 669 = .ok (.iload_n 3, 1) ∧ decode cL_law 670 = .ok (.iconst 2, 1) ∧ decode cL_law 671 = .ok (.iadd, 1) ∧ decode cL_law 672 = .ok (.iaload, 1) ∧ decode cL_law 673 = .ok (.invokevirtual 90, 3) ∧ decode cL_law 676 = .ok (.aload_n 2, 1) ∧ decode cL_law 677 = .ok (.aload_n 0, 1) ∧ decode cL_law 678 = .ok (.iload_n 3, 1) ∧ decode cL_law 679 = .ok (.iconst 1, 1) ∧ decode cL_law 680 = .ok (.iadd, 1) ∧ decode cL_law 681 = .ok (.iaload, 1) ∧ decode cL_law 682 = .ok (.aload_n 0, 1) ∧ decode cL_law 683 = .ok (.iload_n 3, 1) ∧ decode cL_law 684 = .ok (.iconst 2, 1) ∧ decode cL_law 685 = .ok (.iadd, 1) ∧ decode cL_law 686 = .ok (.iaload, 1) ∧ decode cL_law 687 = .ok (.invokevirtual 93, 3) ∧ decode cL_law 690 = .ok (.if_icmp .eq 113, 3) ∧ decode cL_law 693 = .ok (.iconst 0, 1) ∧ decode cL_law 694 = .ok (.ireturn, 1) ∧ decode cL_law 695 = .ok (.aload_n 1, 1) ∧ decode cL_law 696 = .ok (.aload_n 0, 1) ∧ decode cL_law 697 = .ok (.iload_n 3, 1) ∧ decode cL_law 698 = .ok (.iconst 1, 1) ∧ decode cL_law 699 = .ok (.iadd, 1) ∧ decode cL_law 700 = .ok (.iaload, 1) ∧ decode cL_law 701 = .ok (.invokevirtual 94, 3) ∧ decode cL_law 704 = .ok (.aload_n 2, 1) ∧ decode cL_law 705 = .ok (.aload_n 0, 1) ∧ decode cL_law 706 = .ok (.iload_n 3, 1) ∧ decode cL_law 707 = .ok (.iconst 1, 1) ∧ decode cL_law 708 = .ok (.iadd, 1) ∧ decode cL_law 709 = .ok (.iaload, 1) ∧ decode cL_law 710 = .ok (.invokevirtual 97, 3) ∧ decode cL_law 713 = .ok (.if_icmp .eq 90, 3) ∧ decode cL_law 716 = .ok (.iconst 0, 1) ∧ decode cL_law 717 = .ok (.ireturn, 1) ∧ decode cL_law 718 = .ok (.aload_n 1, 1) ∧ decode cL_law 719 = .ok (.invokevirtual 98, 3) ∧ decode cL_law 722 = .ok (.aload_n 2, 1) ∧ decode cL_law 723 = .ok (.invokevirtual 101, 3) ∧ decode cL_law 726 = .ok (.if_icmp .eq 77, 3) ∧ decode cL_law 729 = .ok (.iconst 0, 1) ∧ decode cL_law 730 = .ok (.ireturn, 1) ∧ decode cL_law 731 = .ok (.aload_n 1, 1) ∧ decode cL_law 732 = .ok (.aload_n 0, 1) ∧ decode cL_law 733 = .ok (.iload_n 3, 1) ∧ decode cL_law 734 = .ok (.iconst 1, 1) ∧ decode cL_law 735 = .ok (.iadd, 1) ∧ decode cL_law 736 = .ok (.iaload, 1) ∧ decode cL_law 737 = .ok (.invokevirtual 102, 3) ∧ decode cL_law 740 = .ok (.aload_n 2, 1) ∧ decode cL_law 741 = .ok (.aload_n 0, 1) ∧ decode cL_law 742 = .ok (.iload_n 3, 1) ∧ decode cL_law 743 = .ok (.iconst 1, 1) ∧ decode cL_law 744 = .ok (.iadd, 1) ∧ decode cL_law 745 = .ok (.iaload, 1) ∧ decode cL_law 746 = .ok (.invokevirtual 105, 3) ∧ decode cL_law 749 = .ok (.if_icmp .eq 54, 3) ∧ decode cL_law 752 = .ok (.iconst 0, 1) ∧ decode cL_law 753 = .ok (.ireturn, 1) ∧ decode cL_law 754 = .ok (.aload_n 1, 1) ∧ decode cL_law 755 = .ok (.invokevirtual 106, 3) ∧ decode cL_law 758 = .ok (.aload_n 2, 1) ∧ decode cL_law 759 = .ok (.invokevirtual 109, 3) ∧ decode cL_law 762 = .ok (.if_icmp .eq 41, 3) ∧ decode cL_law 765 = .ok (.iconst 0, 1) ∧ decode cL_law 766 = .ok (.ireturn, 1) ∧ decode cL_law 767 = .ok (.aload_n 1, 1) ∧ decode cL_law 768 = .ok (.aload_n 0, 1) ∧ decode cL_law 769 = .ok (.iload_n 3, 1) ∧ decode cL_law 770 = .ok (.iconst 1, 1) ∧ decode cL_law 771 = .ok (.iadd, 1) ∧ decode cL_law 772 = .ok (.iaload, 1) ∧ decode cL_law 773 = .ok (.invokevirtual 110, 3) ∧ decode cL_law 776 = .ok (.aload_n 2, 1) ∧ decode cL_law 777 = .ok (.aload_n 0, 1) ∧ decode cL_law 778 = .ok (.iload_n 3, 1) ∧ decode cL_law 779 = .ok (.iconst 1, 1) ∧ decode cL_law 780 = .ok (.iadd, 1) ∧ decode cL_law 781 = .ok (.iaload, 1) ∧ decode cL_law 782 = .ok (.invokevirtual 113, 3) ∧ decode cL_law 785 = .ok (.if_icmp .eq 18, 3) ∧ decode cL_law 788 = .ok (.iconst 0, 1) ∧ decode cL_law 789 = .ok (.ireturn, 1) ∧ decode cL_law 790 = .ok (.aload_n 1, 1) ∧ decode cL_law 791 = .ok (.invokevirtual 114, 3) ∧ decode cL_law 794 = .ok (.aload_n 2, 1) ∧ decode cL_law 795 = .ok (.invokevirtual 117, 3) ∧ decode cL_law 798 = .ok (.if_icmp .eq 5, 3) ∧ decode cL_law 801 = .ok (.iconst 0, 1) ∧ decode cL_law 802 = .ok (.ireturn, 1) ∧ decode cL_law 803 = .ok (.iinc 3 6, 3) ∧ decode cL_law 806 = .ok (.goto (-788), 3) ∧ decode cL_law 809 = .ok (.iconst 1, 1) ∧ decode cL_law 810 = .ok (.ireturn, 1) ∧ True := dq_of (l := (0, .new 7, 3) :: (3, .dup, 1) :: (4, .invokespecial 9, 3) :: (7, .astore_n 1, 1) :: (8, .new 10, 3) :: (11, .dup, 1) :: (12, .invokespecial 12, 3) :: (15, .astore_n 2, 1) :: (16, .iconst 0, 1) :: (17, .istore_n 3, 1) :: (18, .iload_n 3, 1) :: (19, .aload_n 0, 1) :: (20, .arraylength, 1) :: (21, .bipush 6, 2) :: (23, .isub, 1) :: (24, .if_icmp .gt 785, 3) :: (27, .aload_n 0, 1) :: (28, .iload_n 3, 1) :: (29, .iaload, 1) :: (30, .bipush 31, 2) :: (32, .iand, 1) :: (33, .tableswitch 770 0 24 #[115, 148, 191, 224, 247, 260, 293, 356, 369, 402, 425, 458, 491, 514, 537, 550, 573, 596, 629, 662, 685, 698, 721, 734, 757], 115) :: (148, .aload_n 1, 1) :: (149, .aload_n 0, 1) :: (150, .iload_n 3, 1) :: (151, .iconst 1, 1) :: (152, .iadd, 1) :: (153, .iaload, 1) :: (154, .aload_n 0, 1) :: (155, .iload_n 3, 1) :: (156, .iconst 2, 1) :: (157, .iadd, 1) :: (158, .iaload, 1) :: (159, .invokevirtual 13, 3) :: (162, .aload_n 2, 1) :: (163, .aload_n 0, 1) :: (164, .iload_n 3, 1) :: (165, .iconst 1, 1) :: (166, .iadd, 1) :: (167, .iaload, 1) :: (168, .aload_n 0, 1) :: (169, .iload_n 3, 1) :: (170, .iconst 2, 1) :: (171, .iadd, 1) :: (172, .iaload, 1) :: (173, .invokevirtual 17, 3) :: (176, .if_icmp .eq 627, 3) :: (179, .iconst 0, 1) :: (180, .ireturn, 1) :: (181, .aload_n 1, 1) :: (182, .aload_n 0, 1) :: (183, .iload_n 3, 1) :: (184, .iconst 1, 1) :: (185, .iadd, 1) :: (186, .iaload, 1) :: (187, .aload_n 0, 1) :: (188, .iload_n 3, 1) :: (189, .iconst 2, 1) :: (190, .iadd, 1) :: (191, .iaload, 1) :: (192, .aload_n 0, 1) :: (193, .iload_n 3, 1) :: (194, .iconst 3, 1) :: (195, .iadd, 1) :: (196, .iaload, 1) :: (197, .invokevirtual 18, 3) :: (200, .aload_n 2, 1) :: (201, .aload_n 0, 1) :: (202, .iload_n 3, 1) :: (203, .iconst 1, 1) :: (204, .iadd, 1) :: (205, .iaload, 1) :: (206, .aload_n 0, 1) :: (207, .iload_n 3, 1) :: (208, .iconst 2, 1) :: (209, .iadd, 1) :: (210, .iaload, 1) :: (211, .aload_n 0, 1) :: (212, .iload_n 3, 1) :: (213, .iconst 3, 1) :: (214, .iadd, 1) :: (215, .iaload, 1) :: (216, .invokevirtual 22, 3) :: (219, .if_icmp .eq 584, 3) :: (222, .iconst 0, 1) :: (223, .ireturn, 1) :: (224, .aload_n 1, 1) :: (225, .aload_n 0, 1) :: (226, .iload_n 3, 1) :: (227, .iconst 1, 1) :: (228, .iadd, 1) :: (229, .iaload, 1) :: (230, .aload_n 0, 1) :: (231, .iload_n 3, 1) :: (232, .iconst 2, 1) :: (233, .iadd, 1) :: (234, .iaload, 1) :: (235, .invokevirtual 23, 3) :: (238, .aload_n 2, 1) :: (239, .aload_n 0, 1) :: (240, .iload_n 3, 1) :: (241, .iconst 1, 1) :: (242, .iadd, 1) :: (243, .iaload, 1) :: (244, .aload_n 0, 1) :: (245, .iload_n 3, 1) :: (246, .iconst 2, 1) :: (247, .iadd, 1) :: (248, .iaload, 1) :: (249, .invokevirtual 26, 3) :: (252, .if_icmp .eq 551, 3) :: (255, .iconst 0, 1) :: (256, .ireturn, 1) :: (257, .aload_n 1, 1) :: (258, .aload_n 0, 1) :: (259, .iload_n 3, 1) :: (260, .iconst 1, 1) :: (261, .iadd, 1) :: (262, .iaload, 1) :: (263, .invokevirtual 27, 3) :: (266, .aload_n 2, 1) :: (267, .aload_n 0, 1) :: (268, .iload_n 3, 1) :: (269, .iconst 1, 1) :: (270, .iadd, 1) :: (271, .iaload, 1) :: (272, .invokevirtual 31, 3) :: (275, .if_icmp .eq 528, 3) :: (278, .iconst 0, 1) :: (279, .ireturn, 1) :: (280, .aload_n 1, 1) :: (281, .invokevirtual 32, 3) :: (284, .aload_n 2, 1) :: (285, .invokevirtual 36, 3) :: (288, .if_icmp .eq 515, 3) :: (291, .iconst 0, 1) :: (292, .ireturn, 1) :: (293, .aload_n 1, 1) :: (294, .aload_n 0, 1) :: (295, .iload_n 3, 1) :: (296, .iconst 1, 1) :: (297, .iadd, 1) :: (298, .iaload, 1) :: (299, .aload_n 0, 1) :: (300, .iload_n 3, 1) :: (301, .iconst 2, 1) :: (302, .iadd, 1) :: (303, .iaload, 1) :: (304, .invokevirtual 37, 3) :: (307, .aload_n 2, 1) :: (308, .aload_n 0, 1) :: (309, .iload_n 3, 1) :: (310, .iconst 1, 1) :: (311, .iadd, 1) :: (312, .iaload, 1) :: (313, .aload_n 0, 1) :: (314, .iload_n 3, 1) :: (315, .iconst 2, 1) :: (316, .iadd, 1) :: (317, .iaload, 1) :: (318, .invokevirtual 40, 3) :: (321, .if_icmp .eq 482, 3) :: (324, .iconst 0, 1) :: (325, .ireturn, 1) :: (326, .aload_n 1, 1) :: (327, .aload_n 0, 1) :: (328, .iload_n 3, 1) :: (329, .iconst 1, 1) :: (330, .iadd, 1) :: (331, .iaload, 1) :: (332, .aload_n 0, 1) :: (333, .iload_n 3, 1) :: (334, .iconst 2, 1) :: (335, .iadd, 1) :: (336, .iaload, 1) :: (337, .aload_n 0, 1) :: (338, .iload_n 3, 1) :: (339, .iconst 3, 1) :: (340, .iadd, 1) :: (341, .iaload, 1) :: (342, .aload_n 0, 1) :: (343, .iload_n 3, 1) :: (344, .iconst 4, 1) :: (345, .iadd, 1) :: (346, .iaload, 1) :: (347, .aload_n 0, 1) :: (348, .iload_n 3, 1) :: (349, .iconst 5, 1) :: (350, .iadd, 1) :: (351, .iaload, 1) :: (352, .invokevirtual 41, 3) :: (355, .aload_n 2, 1) :: (356, .aload_n 0, 1) :: (357, .iload_n 3, 1) :: (358, .iconst 1, 1) :: (359, .iadd, 1) :: (360, .iaload, 1) :: (361, .aload_n 0, 1) :: (362, .iload_n 3, 1) :: (363, .iconst 2, 1) :: (364, .iadd, 1) :: (365, .iaload, 1) :: (366, .aload_n 0, 1) :: (367, .iload_n 3, 1) :: (368, .iconst 3, 1) :: (369, .iadd, 1) :: (370, .iaload, 1) :: (371, .aload_n 0, 1) :: (372, .iload_n 3, 1) :: (373, .iconst 4, 1) :: (374, .iadd, 1) :: (375, .iaload, 1) :: (376, .aload_n 0, 1) :: (377, .iload_n 3, 1) :: (378, .iconst 5, 1) :: (379, .iadd, 1) :: (380, .iaload, 1) :: (381, .invokevirtual 45, 3) :: (384, .if_icmp .eq 419, 3) :: (387, .iconst 0, 1) :: (388, .ireturn, 1) :: (389, .aload_n 1, 1) :: (390, .invokevirtual 46, 3) :: (393, .aload_n 2, 1) :: (394, .invokevirtual 49, 3) :: (397, .if_icmp .eq 406, 3) :: (400, .iconst 0, 1) :: (401, .ireturn, 1) :: (402, .aload_n 1, 1) :: (403, .aload_n 0, 1) :: (404, .iload_n 3, 1) :: (405, .iconst 1, 1) :: (406, .iadd, 1) :: (407, .iaload, 1) :: (408, .aload_n 0, 1) :: (409, .iload_n 3, 1) :: (410, .iconst 2, 1) :: (411, .iadd, 1) :: (412, .iaload, 1) :: (413, .invokevirtual 50, 3) :: (416, .aload_n 2, 1) :: (417, .aload_n 0, 1) :: (418, .iload_n 3, 1) :: (419, .iconst 1, 1) :: (420, .iadd, 1) :: (421, .iaload, 1) :: (422, .aload_n 0, 1) :: (423, .iload_n 3, 1) :: (424, .iconst 2, 1) :: (425, .iadd, 1) :: (426, .iaload, 1) :: (427, .invokevirtual 53, 3) :: (430, .if_icmp .eq 373, 3) :: (433, .iconst 0, 1) :: (434, .ireturn, 1) :: (435, .aload_n 1, 1) :: (436, .aload_n 0, 1) :: (437, .iload_n 3, 1) :: (438, .iconst 1, 1) :: (439, .iadd, 1) :: (440, .iaload, 1) :: (441, .invokevirtual 54, 3) :: (444, .aload_n 2, 1) :: (445, .aload_n 0, 1) :: (446, .iload_n 3, 1) :: (447, .iconst 1, 1) :: (448, .iadd, 1) :: (449, .iaload, 1) :: (450, .invokevirtual 57, 3) :: (453, .if_icmp .eq 350, 3) :: (456, .iconst 0, 1) :: (457, .ireturn, 1) :: (458, .aload_n 1, 1) :: (459, .aload_n 0, 1) :: (460, .iload_n 3, 1) :: (461, .iconst 1, 1) :: (462, .iadd, 1) :: (463, .iaload, 1) :: (464, .aload_n 0, 1) :: (465, .iload_n 3, 1) :: (466, .iconst 2, 1) :: (467, .iadd, 1) :: (468, .iaload, 1) :: (469, .invokevirtual 58, 3) :: (472, .aload_n 2, 1) :: (473, .aload_n 0, 1) :: (474, .iload_n 3, 1) :: (475, .iconst 1, 1) :: (476, .iadd, 1) :: (477, .iaload, 1) :: (478, .aload_n 0, 1) :: (479, .iload_n 3, 1) :: (480, .iconst 2, 1) :: (481, .iadd, 1) :: (482, .iaload, 1) :: (483, .invokevirtual 61, 3) :: (486, .if_icmp .eq 317, 3) :: (489, .iconst 0, 1) :: (490, .ireturn, 1) :: (491, .aload_n 1, 1) :: (492, .aload_n 0, 1) :: (493, .iload_n 3, 1) :: (494, .iconst 1, 1) :: (495, .iadd, 1) :: (496, .iaload, 1) :: (497, .aload_n 0, 1) :: (498, .iload_n 3, 1) :: (499, .iconst 2, 1) :: (500, .iadd, 1) :: (501, .iaload, 1) :: (502, .invokevirtual 62, 3) :: (505, .aload_n 2, 1) :: (506, .aload_n 0, 1) :: (507, .iload_n 3, 1) :: (508, .iconst 1, 1) :: (509, .iadd, 1) :: (510, .iaload, 1) :: (511, .aload_n 0, 1) :: (512, .iload_n 3, 1) :: (513, .iconst 2, 1) :: (514, .iadd, 1) :: (515, .iaload, 1) :: (516, .invokevirtual 65, 3) :: (519, .if_icmp .eq 284, 3) :: (522, .iconst 0, 1) :: (523, .ireturn, 1) :: (524, .aload_n 1, 1) :: (525, .aload_n 0, 1) :: (526, .iload_n 3, 1) :: (527, .iconst 1, 1) :: (528, .iadd, 1) :: (529, .iaload, 1) :: (530, .invokevirtual 66, 3) :: (533, .aload_n 2, 1) :: (534, .aload_n 0, 1) :: (535, .iload_n 3, 1) :: (536, .iconst 1, 1) :: (537, .iadd, 1) :: (538, .iaload, 1) :: (539, .invokevirtual 69, 3) :: (542, .if_icmp .eq 261, 3) :: (545, .iconst 0, 1) :: (546, .ireturn, 1) :: (547, .aload_n 1, 1) :: (548, .aload_n 0, 1) :: (549, .iload_n 3, 1) :: (550, .iconst 1, 1) :: (551, .iadd, 1) :: (552, .iaload, 1) :: (553, .invokevirtual 70, 3) :: (556, .aload_n 2, 1) :: (557, .aload_n 0, 1) :: (558, .iload_n 3, 1) :: (559, .iconst 1, 1) :: (560, .iadd, 1) :: (561, .iaload, 1) :: (562, .invokevirtual 73, 3) :: (565, .if_icmp .eq 238, 3) :: (568, .iconst 0, 1) :: (569, .ireturn, 1) :: (570, .aload_n 1, 1) :: (571, .invokevirtual 74, 3) :: (574, .aload_n 2, 1) :: (575, .invokevirtual 77, 3) :: (578, .if_icmp .eq 225, 3) :: (581, .iconst 0, 1) :: (582, .ireturn, 1) :: (583, .aload_n 1, 1) :: (584, .aload_n 0, 1) :: (585, .iload_n 3, 1) :: (586, .iconst 1, 1) :: (587, .iadd, 1) :: (588, .iaload, 1) :: (589, .invokevirtual 78, 3) :: (592, .aload_n 2, 1) :: (593, .aload_n 0, 1) :: (594, .iload_n 3, 1) :: (595, .iconst 1, 1) :: (596, .iadd, 1) :: (597, .iaload, 1) :: (598, .invokevirtual 81, 3) :: (601, .if_icmp .eq 202, 3) :: (604, .iconst 0, 1) :: (605, .ireturn, 1) :: (606, .aload_n 1, 1) :: (607, .aload_n 0, 1) :: (608, .iload_n 3, 1) :: (609, .iconst 1, 1) :: (610, .iadd, 1) :: (611, .iaload, 1) :: (612, .invokevirtual 82, 3) :: (615, .aload_n 2, 1) :: (616, .aload_n 0, 1) :: (617, .iload_n 3, 1) :: (618, .iconst 1, 1) :: (619, .iadd, 1) :: (620, .iaload, 1) :: (621, .invokevirtual 85, 3) :: (624, .if_icmp .eq 179, 3) :: (627, .iconst 0, 1) :: (628, .ireturn, 1) :: (629, .aload_n 1, 1) :: (630, .aload_n 0, 1) :: (631, .iload_n 3, 1) :: (632, .iconst 1, 1) :: (633, .iadd, 1) :: (634, .iaload, 1) :: (635, .aload_n 0, 1) :: (636, .iload_n 3, 1) :: (637, .iconst 2, 1) :: (638, .iadd, 1) :: (639, .iaload, 1) :: (640, .invokevirtual 86, 3) :: (643, .aload_n 2, 1) :: (644, .aload_n 0, 1) :: (645, .iload_n 3, 1) :: (646, .iconst 1, 1) :: (647, .iadd, 1) :: (648, .iaload, 1) :: (649, .aload_n 0, 1) :: (650, .iload_n 3, 1) :: (651, .iconst 2, 1) :: (652, .iadd, 1) :: (653, .iaload, 1) :: (654, .invokevirtual 89, 3) :: (657, .if_icmp .eq 146, 3) :: (660, .iconst 0, 1) :: (661, .ireturn, 1) :: (662, .aload_n 1, 1) :: (663, .aload_n 0, 1) :: (664, .iload_n 3, 1) :: (665, .iconst 1, 1) :: (666, .iadd, 1) :: (667, .iaload, 1) :: (668, .aload_n 0, 1) :: (669, .iload_n 3, 1) :: (670, .iconst 2, 1) :: (671, .iadd, 1) :: (672, .iaload, 1) :: (673, .invokevirtual 90, 3) :: (676, .aload_n 2, 1) :: (677, .aload_n 0, 1) :: (678, .iload_n 3, 1) :: (679, .iconst 1, 1) :: (680, .iadd, 1) :: (681, .iaload, 1) :: (682, .aload_n 0, 1) :: (683, .iload_n 3, 1) :: (684, .iconst 2, 1) :: (685, .iadd, 1) :: (686, .iaload, 1) :: (687, .invokevirtual 93, 3) :: (690, .if_icmp .eq 113, 3) :: (693, .iconst 0, 1) :: (694, .ireturn, 1) :: (695, .aload_n 1, 1) :: (696, .aload_n 0, 1) :: (697, .iload_n 3, 1) :: (698, .iconst 1, 1) :: (699, .iadd, 1) :: (700, .iaload, 1) :: (701, .invokevirtual 94, 3) :: (704, .aload_n 2, 1) :: (705, .aload_n 0, 1) :: (706, .iload_n 3, 1) :: (707, .iconst 1, 1) :: (708, .iadd, 1) :: (709, .iaload, 1) :: (710, .invokevirtual 97, 3) :: (713, .if_icmp .eq 90, 3) :: (716, .iconst 0, 1) :: (717, .ireturn, 1) :: (718, .aload_n 1, 1) :: (719, .invokevirtual 98, 3) :: (722, .aload_n 2, 1) :: (723, .invokevirtual 101, 3) :: (726, .if_icmp .eq 77, 3) :: (729, .iconst 0, 1) :: (730, .ireturn, 1) :: (731, .aload_n 1, 1) :: (732, .aload_n 0, 1) :: (733, .iload_n 3, 1) :: (734, .iconst 1, 1) :: (735, .iadd, 1) :: (736, .iaload, 1) :: (737, .invokevirtual 102, 3) :: (740, .aload_n 2, 1) :: (741, .aload_n 0, 1) :: (742, .iload_n 3, 1) :: (743, .iconst 1, 1) :: (744, .iadd, 1) :: (745, .iaload, 1) :: (746, .invokevirtual 105, 3) :: (749, .if_icmp .eq 54, 3) :: (752, .iconst 0, 1) :: (753, .ireturn, 1) :: (754, .aload_n 1, 1) :: (755, .invokevirtual 106, 3) :: (758, .aload_n 2, 1) :: (759, .invokevirtual 109, 3) :: (762, .if_icmp .eq 41, 3) :: (765, .iconst 0, 1) :: (766, .ireturn, 1) :: (767, .aload_n 1, 1) :: (768, .aload_n 0, 1) :: (769, .iload_n 3, 1) :: (770, .iconst 1, 1) :: (771, .iadd, 1) :: (772, .iaload, 1) :: (773, .invokevirtual 110, 3) :: (776, .aload_n 2, 1) :: (777, .aload_n 0, 1) :: (778, .iload_n 3, 1) :: (779, .iconst 1, 1) :: (780, .iadd, 1) :: (781, .iaload, 1) :: (782, .invokevirtual 113, 3) :: (785, .if_icmp .eq 18, 3) :: (788, .iconst 0, 1) :: (789, .ireturn, 1) :: (790, .aload_n 1, 1) :: (791, .invokevirtual 114, 3) :: (794, .aload_n 2, 1) :: (795, .invokevirtual 117, 3) :: (798, .if_icmp .eq 5, 3) :: (801, .iconst 0, 1) :: (802, .ireturn, 1) :: (803, .iinc 3 6, 3) :: (806, .goto (-788), 3) :: (809, .iconst 1, 1) :: (810, .ireturn, 1) :: []) (by decide +kernel)
end
section
/-! NUMBERS: a machine int that is named by a whole number -/
abbrev zI (e : Int) : Value := .int (Int32.ofInt e)
def zf (f : Int → Int) : Nat → Int32 := fun k => Int32.ofInt (f (k : Int))
theorem zi_to {e : Int} (h : -2147483648 ≤ e ∧ e < 2147483648) : (Int32.ofInt e).toInt = e := Int32.toInt_ofInt_of_le (by have := h.1; omega) (by have := h.2; omega)
theorem zi_of (x : Int32) : Int32.ofInt x.toInt = x := Int32.ofInt_toInt x
theorem zi_rg (x : Int32) : -2147483648 ≤ x.toInt ∧ x.toInt < 2147483648 := ⟨by have := x.le_toInt; omega, by have := x.toInt_lt; omega⟩
theorem zi_eq {x y : Int} (hx : -2147483648 ≤ x ∧ x < 2147483648) (hy : -2147483648 ≤ y ∧ y < 2147483648) : Int32.ofInt x = Int32.ofInt y ↔ x = y := by
  rw [← Int32.toInt_inj, zi_to hx, zi_to hy]
theorem zi_lt {x y : Int} (hx : -2147483648 ≤ x ∧ x < 2147483648) (hy : -2147483648 ≤ y ∧ y < 2147483648) : Int32.ofInt x < Int32.ofInt y ↔ x < y := by
  rw [Int32.lt_iff_toInt_lt, zi_to hx, zi_to hy]
theorem zi_le {x y : Int} (hx : -2147483648 ≤ x ∧ x < 2147483648) (hy : -2147483648 ≤ y ∧ y < 2147483648) : Int32.ofInt x ≤ Int32.ofInt y ↔ x ≤ y := by
  rw [Int32.le_iff_toInt_le, zi_to hx, zi_to hy]
theorem zi_add (x y : Int) : Int32.ofInt x + Int32.ofInt y = Int32.ofInt (x + y) := (Int32.ofInt_add x y).symm
theorem zi_mul (x y : Int) : Int32.ofInt x * Int32.ofInt y = Int32.ofInt (x * y) := (Int32.ofInt_mul x y).symm
theorem zi_neg (x : Int) : - Int32.ofInt x = Int32.ofInt (-x) := (Int32.ofInt_neg x).symm
theorem zi_sub (x y : Int) : Int32.ofInt x - Int32.ofInt y = Int32.ofInt (x - y) := (Int32.ofInt_sub x y).symm
theorem zi_div {x y : Int} (hx : 0 ≤ x ∧ x < 2147483648) (hy : 0 < y ∧ y < 2147483648) : Int32.ofInt x / Int32.ofInt y = Int32.ofInt (x / y) := by
  have h2 : x / y ≤ x := Int.ediv_le_self y hx.1
  have h3 : 0 ≤ x / y := Int.ediv_nonneg hx.1 (by omega)
  apply Int32.toInt_inj.mp
  rw [Int32.toInt_div_of_ne_right _ _ (by
    intro z
    have hz := congrArg Int32.toInt z
    rw [zi_to (by omega)] at hz
    have h5 : (-1 : Int32).toInt = -1 := by decide
    omega), zi_to (by omega), zi_to (by omega), zi_to (by omega), Int.tdiv_eq_ediv_of_nonneg hx.1]
theorem zi_rem {x y : Int} (hx : 0 ≤ x ∧ x < 2147483648) (hy : 0 < y ∧ y < 2147483648) : Int32.ofInt x - Int32.ofInt x / Int32.ofInt y * Int32.ofInt y = Int32.ofInt (x % y) := by
  rw [zi_div hx hy, zi_mul, zi_sub, Int.emod_def, Int.mul_comm]
theorem zi_cl {e : Int} (h : 0 ≤ e ∧ e < 2147483648) : (((Int32.ofInt e).toNatClampNeg : Nat) : Int) = e := by
  show (((Int32.ofInt e).toInt.toNat : Nat) : Int) = e
  rw [zi_to (by omega)]
  omega
theorem zi_in {e : Int} {n : Nat} (h0 : 0 ≤ e) (h1 : e < (n : Int)) (hn : n < 2147483648) : vp_in (Int32.ofInt e) n := by
  rw [vp_in_iff, zi_to (by omega)]
  exact ⟨h0, h1⟩
theorem zf_cl {f : Int → Int} {e : Int} (h : 0 ≤ e ∧ e < 2147483648) : zf f (Int32.ofInt e).toNatClampNeg = Int32.ofInt (f e) := by
  unfold zf
  rw [zi_cl h]
theorem zi_char {e : Int} (h : 0 ≤ e ∧ e < 65536) : vp_nar .char (Int32.ofInt e) = Int32.ofInt e := by
  obtain ⟨n, rfl⟩ := Int.eq_ofNat_of_zero_le h.1
  have h2 := pk_charN (q := n) (by omega)
  exact Value.int.inj h2.1
theorem zi_i2c {e : Int} (h : 0 ≤ e ∧ e < 65536) : ((Int32.ofInt e).toUInt32 % 65536).toInt32 = Int32.ofInt e := by
  obtain ⟨n, rfl⟩ := Int.eq_ofNat_of_zero_le h.1
  rw [pk_char]
  have h3 : (nI n).toBitVec.toNat = n := pk_tn (by omega)
  show nI ((nI n).toBitVec.toNat % 65536) = _
  rw [h3, Nat.mod_eq_of_lt (by omega)]
  rfl
theorem zi_and {e : Int} (h : 0 ≤ e ∧ e < 2147483648) (m : Nat) (k : Nat) (hm : (nI m).toBitVec.toNat = 2 ^ k - 1) : Int32.ofInt e &&& Int32.ofInt (m : Int) = Int32.ofInt (e % (2 ^ k : Nat)) := by
  obtain ⟨n, rfl⟩ := Int.eq_ofNat_of_zero_le h.1
  have h3 := pk_andN (n := n) (by omega) k hm
  exact h3
/-! THE ABSTRACT STORE: object ids in the order of making; ints, references, the script -/
abbrev Sto : Type := (Nat → Int → Int) × (Nat → Int → Option Nat) × Nat × (Nat → Int32)
abbrev Rho : Type := (Nat → Nat) × Nat × (Nat → Int32)
abbrev Gam : Type := va_G × (Nat → ClassId) × Nat × Rho
def gD (g : Gam) : va_G := g.1
def gC (g : Gam) : Nat → ClassId := g.2.1
def gz (g : Gam) : Nat := g.2.2.1
def gr (g : Gam) : Rho := g.2.2.2
def tr (g : Gam) : Value → Value
  | .ref i => .ref (gz g + i)
  | .retAddr k => .ref ((gr g).1 k)
  | v => v
theorem tr_cat (g : Gam) (v : Value) : (tr g v).category = v.category := by cases v <;> rfl
theorem tr_sum (g : Gam) (l : List Value) : ((l.map (tr g)).map fun v => v.category).sum = (l.map fun v => v.category).sum := by
  rw [List.map_map]
  congr 1
  apply List.map_congr_left
  intro v _
  exact tr_cat g v
/-- the cells of a machine, by their place behind it -/
def shM : Nat → Nat × Nat := fun k => match k with
  | 0 => (0, 4)
  | 1 => (0, 6)
  | 2 => (1, 4)
  | 3 => (1, 4)
  | 4 => (1, 4)
  | 5 => (0, 5)
  | 6 => (4, 10)
  | 17 => (0, 3)
  | 18 => (1, 9)
  | 19 => (1, 16)
  | 20 => (1, 16)
  | 21 => (1, 16)
  | 22 => (1, 6)
  | _ => (0, 1)
/-- what each cell is: (0, class), (1, length) ints, (2, length) chars, (3 + class, length) references -/
def sh (i : Nat) : Nat × Nat :=
  if i = 0 then (0, 7) else if i < 47 then shM ((i - 1) % 23) else if i = 47 then (0, 0) else if i = 48 then (7, 4) else if i < 141 then shM ((i - 49) % 23)
  else if i = 141 then (0, 2) else if i = 142 then (2, 100) else if i = 143 then (0, 1) else if i = 144 then (0, 8) else if i = 145 then (1, 185) else if i = 146 then (1, 740) else if i = 147 then (1, 185) else if i = 148 then (1, 100) else (1, 5)
def szs (i : Nat) : Nat := if (sh i).1 = 0 then nFs (sh i).2 else (sh i).2
def SL : Nat → Nat
  | 0 => 0
  | n + 1 => SL n + szs n
theorem SL_mono {a b : Nat} (h : a ≤ b) : SL a ≤ SL b := by
  induction b with
  | zero => rw [Nat.le_zero.mp h]; exact Nat.le_refl _
  | succ b ih =>
    rcases Nat.lt_or_ge a (b + 1) with q | q
    · exact Nat.le_trans (ih (by omega)) (Nat.le_add_right _ _)
    · rw [Nat.le_antisymm h q]; exact Nat.le_refl _
def isRf : FieldType → Bool
  | .object _ => true
  | .array _ => true
  | _ => false
def rv : Option Nat → Value
  | some i => .ref i
  | none => .null
/-- the value of field k of object i of class ci -/
def gv (σ : Sto) (i ci k : Nat) : Value := if isRf (tyXs ci k) = true then rv (σ.2.1 i (k : Int)) else zI (σ.1 i (k : Int))
theorem tr_rv (g : Gam) (r : Option Nat) : tr g (rv r) = va_rf (r.map (fun i => gz g + i)) := by cases r <;> rfl
def cel (g : Gam) (σ : Sto) (i : Nat) : va_E := match sh i with
  | (0, ci) => .inr (ci, (List.range (nFs ci)).map (fun k => tr g (gv σ i ci k)))
  | (1, n) => .inl (gC g 0, n, .inl (zf (σ.1 i)))
  | (2, n) => .inl (gC g 1, n, .inl (zf (σ.1 i)))
  | (k + 3, n) => .inl (gC g (k + 2), n, .inr (.inr (.inr (.inr (fun j => (σ.2.1 i (j : Int)).map (fun i => gz g + i))))))
theorem cel_o {g : Gam} {σ : Sto} {i ci : Nat} (h : sh i = (0, ci)) : cel g σ i = .inr (ci, (List.range (nFs ci)).map (fun k => tr g (gv σ i ci k))) := by unfold cel; rw [h]
theorem cel_i {g : Gam} {σ : Sto} {i n : Nat} (h : sh i = (1, n)) : cel g σ i = .inl (gC g 0, n, .inl (zf (σ.1 i))) := by unfold cel; rw [h]
theorem cel_c {g : Gam} {σ : Sto} {i n : Nat} (h : sh i = (2, n)) : cel g σ i = .inl (gC g 1, n, .inl (zf (σ.1 i))) := by unfold cel; rw [h]
theorem cel_q {g : Gam} {σ : Sto} {i k n : Nat} (h : sh i = (k + 3, n)) : cel g σ i = .inl (gC g (k + 2), n, .inr (.inr (.inr (.inr (fun j => (σ.2.1 i (j : Int)).map (fun i => gz g + i)))))) := by unfold cel; rw [h]
def wl (g : Gam) (N : Nat) (σ : Sto) : va_W := (List.range N).map (fun i => (gz g + i, cel g σ i))
theorem wl_at {g : Gam} {N : Nat} {σ : Sto} {i : Nat} (h : i < N) : (wl g N σ)[i]? = some (gz g + i, cel g σ i) := by simp [wl, h]
theorem wl_of {g : Gam} {N : Nat} {σ : Sto} {i : Nat} {q : Nat × va_E} (h : (wl g N σ)[i]? = some q) : i < N ∧ q = (gz g + i, cel g σ i) := by
  rcases Nat.lt_or_ge i N with hi | hi
  · rw [wl_at hi] at h
    exact ⟨hi, (Option.some.inj h).symm⟩
  · rw [List.getElem?_eq_none (by simp [wl]; exact hi)] at h
    cases h
theorem wl_D (g : Gam) (N : Nat) (σ : Sto) : va_D (fun q => gz g ≤ q) (wl g N σ) := by
  refine ⟨fun i j p q hi hj e => ?_, fun k q h => ?_⟩
  · obtain ⟨-, rfl⟩ := wl_of hi
    obtain ⟨-, rfl⟩ := wl_of hj
    exact Nat.add_left_cancel e
  · obtain ⟨-, rfl⟩ := wl_of h
    exact Nat.le_add_right _ _
/-- a store that differs at one cell -/
theorem wl_set {g : Gam} {N : Nat} {σ σ' : Sto} {i : Nat} {e : va_E} (he : cel g σ' i = e) (ho : ∀ j, j ≠ i → cel g σ' j = cel g σ j) : (wl g N σ).set i (gz g + i, e) = wl g N σ' := by
  apply List.ext_getElem?
  intro j
  by_cases hj : i = j
  · subst hj
    rcases Nat.lt_or_ge i N with h | h
    · rw [List.getElem?_set_self (by simp [wl, h]), wl_at h, he]
    · rw [List.getElem?_eq_none (by simp [wl, h]), List.getElem?_eq_none (by simp [wl, h])]
  · rw [List.getElem?_set_ne hj]
    rcases Nat.lt_or_ge j N with h | h
    · rw [wl_at h, wl_at h, ho j (Ne.symm hj)]
    · rw [List.getElem?_eq_none (by simp [wl, h]), List.getElem?_eq_none (by simp [wl, h])]
theorem wl_push {g : Gam} {N : Nat} {σ : Sto} : wl g (N + 1) σ = wl g N σ ++ [(gz g + N, cel g σ N)] := by
  simp [wl, List.range_succ]
def Wd (g : Gam) (N : Nat) (σ : Sto) (H : Heap) : Prop := (gr g).2 = σ.2.2 ∧ va_P (gD g) vwCl (wl g N σ) H
def tyL (cs : Nat → ClassId) : List (ClassId × FieldType) := [(cs 0, .int), (cs 1, .char), (cs 3, .object RX1), (cs 6, .object RX4)]
/-! WHAT STAYS: the statics, the script, the literals -/
def stN : Nat → String := fun j => match j with
  | 0 => "FIRST_SETTING"
  | 1 => "LEAST_SETTING"
  | _ => "GREATEST_SETTING"
def stV : Nat → Nat → Int32 := fun j k => match j with
  | 0 => (match k with | 0 => 2 | 1 => 1 | 2 => 3 | 3 => 30 | 4 => 0 | _ => 250)
  | 1 => (match k with | 0 => 1 | 1 => 0 | 2 => 0 | 3 => 2 | 4 => 0 | _ => 1)
  | _ => (match k with | 0 => 20 | 1 => 20 | 2 => 20 | 3 => 100 | 4 => 500 | _ => 1000)
def liT : Nat → String := fun j => match j with
  | 0 => "p " | 1 => "c " | 2 => "both " | 3 => "gather " | 4 => "staple1 " | 5 => "staple2 " | 6 => "A5 " | 7 => "A4 " | 8 => "A3 " | 9 => "letter " | 10 => "plain;" | 11 => "thick;" | 12 => "colored;" | _ => "film;"
def liI : Nat → Nat := fun j => match j with
  | 0 => 69 | 1 => 75 | 2 => 97 | 3 => 99 | 4 => 101 | 5 => 103 | 6 => 112 | 7 => 114 | 8 => 116 | 9 => 118 | 10 => 120 | 11 => 122 | 12 => 124 | _ => 126
def liC : Nat → List Nat := fun j => match j with
  | 0 => [112, 32]
  | 1 => [99, 32]
  | 2 => [98, 111, 116, 104, 32]
  | 3 => [103, 97, 116, 104, 101, 114, 32]
  | 4 => [115, 116, 97, 112, 108, 101, 49, 32]
  | 5 => [115, 116, 97, 112, 108, 101, 50, 32]
  | 6 => [65, 53, 32]
  | 7 => [65, 52, 32]
  | 8 => [65, 51, 32]
  | 9 => [108, 101, 116, 116, 101, 114, 32]
  | 10 => [112, 108, 97, 105, 110, 59]
  | 11 => [116, 104, 105, 99, 107, 59]
  | 12 => [99, 111, 108, 111, 114, 101, 100, 59]
  | _ => [102, 105, 108, 109, 59]
def liL : List Nat := (List.range 14).map (fun j => (liC j).length)
def liB : List (List Int32) := (List.range 14).map (fun j => (liC j).map nI)
def RO (g : Gam) (U : State) (H : Heap) : Prop :=
  (∀ j, j < 3 → va_Z RX7 (stN j) "[I" (.ref ((gr g).1 j)) (fun q => gz g ≤ q) U H ∧ va_T .int ((gr g).1 j) 6 (fun k => .int (stV j k)) (fun q => gz g ≤ q) U H) ∧
  (va_X ((gr g).1 3) (gr g).2.1 (gr g).2.2 U H ∧ (gr g).1 3 < gz g) ∧
  vk_S 14 liL liB (fun j => (gr g).1 (4 + j)) (fun j => (gr g).1 (18 + j)) (fun q => gz g ≤ q) U H ∧ (∀ j, j < 14 → vk_R RX2 (liI j) (liT j) ((gr g).1 (4 + j)) U) ∧
  va_Z RJ0 "COMPACT_STRINGS" "Z" (.int 1) (fun q => gz g ≤ q) U H ∧ va_Zq RJ3 "SIOOBE_FORMATTER" "Ljava/util/function/BiFunction;" (fun q => gz g ≤ q) U H
def Cx (g : Gam) (U : State) (H : Heap) : Prop := va_K (gD g) vwCl (tyL (gC g)) U ∧ (∀ w ∈ nestL, va_Nw w U) ∧ va_Nw (.fieldLinkNest RX4 43 RX7 "FIRST_SETTING" "[I" RX7) U ∧ va_AO RX1 U ∧ va_AO RX4 U ∧ RO g U H
theorem nest_warm {s U : State} (hW : s.WarmedH U.vm) : ∀ w ∈ nestL, va_Nw w s → va_Nw w U := by
  intro w hw h
  simp only [nestL, List.mem_cons, List.not_mem_nil, or_false] at hw
  rcases hw with e | e | e | e | e | e | e | e | e <;> subst e <;> exact va_Nw.warmM hW h
theorem RO.warm {g : Gam} {s U : State} {H : Heap} (hW : s.WarmedH U.vm) (h : RO g s H) : RO g U H := by
  obtain ⟨h1, ⟨h2, h3⟩, h4, h5, h6, h7⟩ := h
  have hA := State.WarmedH.alike hW
  exact ⟨fun j hj => ⟨va_Z.moved hA (h1 j hj).1, va_T.moved hA (h1 j hj).2⟩, ⟨va_X.moved hA h2, h3⟩, vk_S.moved hA h4, fun j hj => vk_R.warm hW (h5 j hj), va_Z.moved hA h6, va_Zq.moved hA h7⟩
theorem RO.kept {g : Gam} {U : State} {H H1 : Heap} (h : RO g U H) (hz : gz g ≤ H.size) (hq : ∀ a : Nat, a < H.size → ¬ gz g ≤ a → H1[a]? = H[a]?) : RO g U H1 := by
  obtain ⟨h1, ⟨h2, h3⟩, h4, h5, h6, h7⟩ := h
  exact ⟨fun j hj => ⟨va_Z.kept (h1 j hj).1 hq, va_T.kept (h1 j hj).2 hq⟩, ⟨h2.kept (hq _ (by omega) (by omega)), h3⟩, vk_S.kept h4 hq, h5, va_Z.kept h6 hq, va_Zq.kept h7 hq⟩
theorem Cx.warm {g : Gam} {s U : State} {H : Heap} (hW : s.WarmedH U.vm) (h : Cx g s H) : Cx g U H := by
  obtain ⟨h1, h2, h3, h4, h5, h6⟩ := h
  have hA := State.WarmedH.alike hW
  exact ⟨va_K.moved hA h1, fun w hw => nest_warm hW w hw (h2 w hw), va_Nw.warmF hW h3, va_AO.moved hA h4, va_AO.moved hA h5, h6.warm hW⟩
theorem Cx.kept {g : Gam} {U : State} {H H1 : Heap} (h : Cx g U H) (hz : gz g ≤ H.size) (hq : ∀ a : Nat, a < H.size → ¬ gz g ≤ a → H1[a]? = H[a]?) : Cx g U H1 := ⟨h.1, h.2.1, h.2.2.1, h.2.2.2.1, h.2.2.2.2.1, h.2.2.2.2.2.kept hz hq⟩
/-! THE JUDGMENT -/
def Ctx (M : MI) (p : Program) (R : Room) (s : State) (m : MethodId) (args : Array Value) (meth : Method) (c : Code) (g : Gam) : Prop :=
  p.tables.exec = Jvm.exec ∧ c.code = miB M ∧ c.maxLocals = miL M ∧ s.vm.findClass (RXs (miC M)) = some m.cls ∧ (∀ w ∈ UW, w.before args s = true) ∧ ((miN M).name = "<init>" → meth.name = "<init>") ∧ miV M ≤ R.frames ∧ 27 * miV M + 27 ≤ R.locals ∧ Cx g s s.heap ∧ gz g ≤ s.heap.size
def rtOK (M : MI) (pc : Nat) (v : Option Value) : Prop := match v with
  | none => decode (miB M) pc = .ok (.return_, 1) ∧ miR M = none
  | some (.int x) => decode (miB M) pc = .ok (.ireturn, 1) ∧ ∃ ty, miR M = some ty ∧ narrow ty (.int x) = .int x
  | some (.long _) => False
  | some (.float _) => False
  | some (.double _) => False
  | some _ => decode (miB M) pc = .ok (.areturn, 1) ∧ ∃ n, miR M = some (.object n)
def V (M : MI) (N1 pc : Nat) (ls : List (Nat × Value)) (st : List Value) (N : Nat) (σ : Sto) (Q : Option Value → Sto → Prop) : Prop :=
  ∀ (p : Program) (l : Launch) (e : Env) (R : Room) (s : State) (m : MethodId) (args : Array Value) (below : List Frame) (meth : Method) (c : Code) (g : Gam) (N0 : Nat) (H : Heap) (locs : List Loc) (lsA : Array Slot) (Zq : State → Prop),
    Ctx M p R s m args meth c g → Wd g N σ H → va_S (fun q => gz g ≤ q) s.heap H locs → (N0 ≤ N ∧ N ≤ N1 ∧ N1 - N0 ≤ R.cells ∧ SL N1 - SL N0 ≤ R.slots ∧ s.heap.size = gz g + N0) → lv_has lsA (miL M) (ls.map (fun q => (q.1, tr g q.2))) →
    (∀ (v : Option Value) (σ' : Sto) (H' : Heap) (locs' : List Loc) (lsA' : Array Slot) (pc' : Nat), Q v σ' → Wd g N1 σ' H' → va_S (fun q => gz g ≤ q) s.heap H' locs' → rtOK M pc' v → W p l e R s m args below meth c H' locs' (N1 - N0) (SL N1 - SL N0) Zq (F0 m pc' lsA' (v.toList.map (tr g)))) →
    W p l e R s m args below meth c H locs (N - N0) (SL N - SL N0) Zq (F0 m pc lsA (st.map (tr g)))
def Wx (M : MI) : List Cond := Cond.code (miN M) (miB M) (miL M) (miR M) :: UW
def rmM (M : MI) (N N1 : Nat) : Room := { frames := miV M, cells := N1 - N, slots := SL N1 - SL N, locals := 27 * miV M + 27 }
def PP (g : Gam) (N : Nat) (σ : Sto) (U : State) : Prop := Wd g N σ U.heap ∧ Cx g U U.heap ∧ U.heap.size = gz g + N
def QQ (g : Gam) (N1 : Nat) (Q : Option Value → Sto → Prop) : Array Value → State → Outcome → State → Prop := fun _ st o t => (∃ (v : Option Value) (σ' : Sto), o = .returned (v.map (tr g)) ∧ Q v σ' ∧ Wd g N1 σ' t.heap) ∧ va_F (fun q => gz g ≤ q) st t
/-- a method's contract: from this store and these arguments it returns, with Q of its answer and the store -/
def Con (M : MI) (N N1 : Nat) (σ : Sto) (av : List Value) (Q : Option Value → Sto → Prop) : Prop :=
  N ≤ N1 ∧ ∀ (l : Launch) (g : Gam), Met l (miN M) (Wx M) (rmM M N N1) (va_Pc (av.map (tr g)) (PP g N σ)) (QQ g N1 Q) (N1 - N) (SL N1 - SL N) (fun q => gz g ≤ q)
end
section
/-! ENTRY, RETURN, CALLS -/
theorem lv_args_tr (g : Gam) : ∀ (av : List Value) (i : Nat), lv_args i (av.map (tr g)) = (lv_args i av).map (fun q => (q.1, tr g q.2))
  | [], _ => rfl
  | v :: vs, i => by
    show (i, tr g v) :: lv_args (if (tr g v).category = 2 then i + 2 else i + 1) (vs.map (tr g)) = (i, tr g v) :: (lv_args (if v.category = 2 then i + 2 else i + 1) vs).map (fun q => (q.1, tr g q.2))
    rw [tr_cat, lv_args_tr g vs]
theorem sl_len (g : Gam) : ∀ av : List Value, (lg_sl (av.map (tr g))).length = (lg_sl av).length
  | [] => rfl
  | v :: vs => by
    have h := sl_len g vs
    simp only [lg_sl, List.map_cons, List.flatMap_cons, List.length_append, tr_cat] at h ⊢
    rw [h]
    split <;> rfl
theorem Cx.at {g : Gam} {s U : State} {H : Heap} {locs : List Loc} (h : Cx g s s.heap) (hz : gz g ≤ s.heap.size) (hS : va_S (fun q => gz g ≤ q) s.heap H locs) (hU : U.heap = H) (hW : s.WarmedH U.vm) : Cx g U U.heap := by
  rw [hU]
  exact (h.warm hW).kept hz (fun a h1 h2 => hS.2.1 a h1 h2)
theorem PP_blind (g : Gam) (N : Nat) (σ : Sto) (av : List Value) : FrameBlind (va_Pc av (PP g N σ)) := fun a U g' mk q =>
  ⟨q.1, q.2.1, Cx.warm (U := U.calling g' mk a) (State.WarmedH.refl U) q.2.2.1, q.2.2.2⟩
theorem V_entry {M : MI} (hM : mOK M) {N N1 : Nat} {σ : Sto} {av : List Value} {Q : Option Value → Sto → Prop} (hN : N ≤ N1) (hl : (lg_sl av).length ≤ miL M) (h : V M N1 0 (lv_args 0 av) [] N σ Q) : Con M N N1 σ av Q := by
  refine ⟨hN, fun l g => ?_⟩
  obtain ⟨h1, h2, h3, h4⟩ := hM
  refine Met.ofW (cc := miB M) (maxL := miL M) (ret := miR M) h1 rfl ?_
  intro p e s m args below meth c s₁ B hml hv
  obtain ⟨rfl, hW, hC, hz⟩ := hv
  have hts := atoms_spec (ws := Wx M) B.pre
  have hown : s.vm.findClass (miN M).cls = some m.cls := findClass_of_methodNamed B.named
  rw [h3] at hown
  have hlocks := B.notSynchronized
  have hr := B.returns
  rw [lg_entry_eq]
  have hle := lv_entry (av.map (tr g)) (n := miL M) (by rw [sl_len]; exact hl)
  generalize (lg_sl (av.map (tr g)) ++ List.replicate (miL M - (lg_sl (av.map (tr g))).length) Slot.unset).toArray = lsA at hle ⊢
  rw [lv_args_tr] at hle
  have key := h p l e (rmM M N N1) s m (av.map (tr g)).toArray below meth c g N s.heap [] lsA (MQ below (QQ g N1 Q) (av.map (tr g)).toArray s (N1 - N) (SL N1 - SL N) (fun q => gz g ≤ q))
    ⟨B.exec, B.bytes, hml, hown, fun w hw => hts w (List.mem_cons_of_mem _ hw), fun e => (name_of_methodNamed B.named B.method).1.trans e, Nat.le_refl _, Nat.le_refl _, hC, by omega⟩ hW va_S.rf ⟨Nat.le_refl _, hN, Nat.le_refl _, Nat.le_refl _, hz⟩ hle ?_
  · rw [Nat.sub_self, Nat.sub_self] at key
    exact key
  · intro v σ' H' locs' lsA' pc' hq hW' hS' hrt
    have fin : ∀ t : State, t.heap = H' → s.WarmedH t.vm → QQ g N1 Q (av.map (tr g)).toArray s (.returned (v.map (tr g))) t := fun t ht _ => ⟨⟨v, σ', rfl, hq, by rw [ht]; exact hW'⟩, hS'.F ht⟩
    match v, hrt with
    | none, hrt => exact W.vret B.exec B.bytes (by rw [hr]; exact hrt.2) fin hS'.2.2 hrt.1 hlocks
    | some (.int x), hrt =>
      obtain ⟨d, ty, e1, e2⟩ := hrt
      exact W.zret (v := x) B.exec B.bytes (by rw [hr]; exact e1) e2 fin hS'.2.2 d hlocks
    | some (.ref x), hrt =>
      obtain ⟨d, n, e1⟩ := hrt
      exact W.aret B.exec B.bytes (by rw [hr]; exact e1) (Or.inl ⟨n, rfl⟩) (Or.inr ⟨_, rfl⟩) fin hS'.2.2 d hlocks
    | some .null, hrt =>
      obtain ⟨d, n, e1⟩ := hrt
      exact W.aret B.exec B.bytes (by rw [hr]; exact e1) (Or.inl ⟨n, rfl⟩) (Or.inl rfl) fin hS'.2.2 d hlocks
    | some (.retAddr x), hrt =>
      obtain ⟨d, n, e1⟩ := hrt
      exact W.aret B.exec B.bytes (by rw [hr]; exact e1) (Or.inl ⟨n, rfl⟩) (Or.inr ⟨_, rfl⟩) fin hS'.2.2 d hlocks
    | some (.long x), hrt => exact hrt.elim
    | some (.float x), hrt => exact hrt.elim
    | some (.double x), hrt => exact hrt.elim
theorem V_ret {M : MI} {N1 pc : Nat} {ls : List (Nat × Value)} {v : Option Value} {σ : Sto} {Q : Option Value → Sto → Prop} (hr : rtOK M pc v) (hq : Q v σ) : V M N1 pc ls v.toList N1 σ Q := by
  intro p l e R s m args below meth c g N0 H locs lsA Zq C hW hS hN hl hret
  exact hret v σ H locs lsA pc hq hW hS hr
theorem V_back {M : MI} {N N' N1 pc : Nat} {ls : List (Nat × Value)} {rest : List Value} {Q Q' : Option Value → Sto → Prop} (hN' : N ≤ N' ∧ N' ≤ N1) (k : ∀ v σ', Q' v σ' → V M N1 (pc + 3) ls (v.toList ++ rest) N' σ' Q)
    {p : Program} {l : Launch} {e : Env} {R : Room} {s : State} {m : MethodId} {args : Array Value} {below : List Frame} {meth : Method} {c : Code} {g : Gam} {N0 : Nat} {H : Heap} {locs : List Loc} {lsA : Array Slot} {Zq : State → Prop} {st0 : List Value} {a : Array Value}
    (C : Ctx M p R s m args meth c g) (hS : va_S (fun q => gz g ≤ q) s.heap H locs) (hN : N0 ≤ N ∧ N ≤ N1 ∧ N1 - N0 ≤ R.cells ∧ SL N1 - SL N0 ≤ R.slots ∧ s.heap.size = gz g + N0) (hl : lv_has lsA (miL M) (ls.map (fun q => (q.1, tr g q.2))))
    (hret : ∀ (v : Option Value) (σ' : Sto) (H' : Heap) (locs' : List Loc) (lsA' : Array Slot) (pc' : Nat), Q v σ' → Wd g N1 σ' H' → va_S (fun q => gz g ≤ q) s.heap H' locs' → rtOK M pc' v → W p l e R s m args below meth c H' locs' (N1 - N0) (SL N1 - SL N0) Zq (F0 m pc' lsA' (v.toList.map (tr g))))
    (hr : va_Run p l e R s m args below meth c H locs (N - N0) (SL N - SL N0) (N' - N) (SL N' - SL N) (F0 m pc lsA st0) (rest.map (tr g)) (QQ g N' Q' a) (fun q => gz g ≤ q)) :
    W p l e R s m args below meth c H locs (N - N0) (SL N - SL N0) Zq (F0 m pc lsA st0) := by
  intro T hT X
  obtain ⟨v, st₀, t, T', L, h0, X', hL, e1, e2, ⟨⟨v', σ', hv, hq, hw⟩, hz, hk⟩, st⟩ := hr T hT X
  have hv' : v = v'.map (tr g) := by injection hv
  subst hv'
  rw [h0] at hz hk
  have m1 := SL_mono hN.1
  have m2 := SL_mono hN'.1
  have ec : N - N0 + (N' - N) = N' - N0 := by omega
  have es : SL N - SL N0 + (SL N' - SL N) = SL N' - SL N0 := by omega
  rw [ec, es] at X'
  have key := k v' σ' hq p l e R s m args below meth c g N0 T'.heap (locs ++ L) lsA Zq C (by rw [e1]; exact hw)
    ⟨Nat.le_trans hS.1 (by rw [e1]; exact hz), fun q h1 h2 => by rw [e1, hk q (Nat.lt_of_lt_of_le h1 hS.1) h2]; exact hS.2.1 q h1 h2, fun q hq => by
      rcases List.mem_append.mp hq with h | h
      · exact hS.2.2 q h
      · exact hL q h⟩ ⟨by omega, hN'.2, hN.2.2.1, hN.2.2.2⟩ hl hret
  have es2 : (v'.map (tr g)).toList ++ rest.map (tr g) = (v'.toList ++ rest).map (tr g) := by cases v' <;> simp
  obtain ⟨t2, a1, b1⟩ := key T' rfl X'
  refine ⟨t2, st t2 ?_, b1⟩
  show Steps p.tables e below (T'.setTop (F0 m (pc + 3) lsA ((v'.map (tr g)).toList ++ rest.map (tr g)))) t2
  rw [es2]
  exact a1

theorem W_size {p : Program} {l : Launch} {e : Env} {R : Room} {s : State} {m : MethodId} {args : Array Value} {below : List Frame} {meth : Method} {c : Code} {g : Gam} {N N0 N1 sl : Nat} {H : Heap} {locs : List Loc} {Zq : State → Prop} {F : JFrame} {σ : Sto}
    (hW : Wd g N σ H) (hS : va_S (fun q => gz g ≤ q) s.heap H locs) (hN : N0 ≤ N ∧ N ≤ N1 ∧ N1 - N0 ≤ R.cells ∧ SL N1 - SL N0 ≤ R.slots ∧ s.heap.size = gz g + N0) (k : H.size = gz g + N → W p l e R s m args below meth c H locs (N - N0) sl Zq F) : W p l e R s m args below meth c H locs (N - N0) sl Zq F := by
  intro T hT X
  have h1 := X.heapSize
  rw [hT] at h1
  have h3 := hS.1
  have h4 := hN.2.2.2.2
  have h5 := hN.1
  have h2 : gz g + N ≤ H.size := by
    rcases Nat.lt_or_ge N0 N with q | q
    · have h6 : gz g + (N - 1) < H.size := (hW.2 (N - 1) _ (wl_at (by omega))).lt
      omega
    · omega
  exact k (by omega) T hT X
theorem gW {ws : List Cond} (h : ∀ w ∈ ws, w ∈ UW) : GoodIn UW ws := fun w hw => uwG w (h w hw)
theorem Wx_in {M : MI} (h : mOK M) : ∀ w ∈ Wx M, w ∈ UW := fun w hw => by
  rcases List.mem_cons.mp hw with e | e
  · rw [e]; exact h.2.1
  · exact e
theorem cat_le {l : List Value} {g : Gam} (h : (l.map fun v => v.category).sum ≤ 8) : 2 * 0 + ((l.map (tr g)).map fun v => v.category).sum ≤ 8 := by
  rw [tr_sum]; omega
section CALLS
variable {M : MI} {N N' N1 pc : Nat} {ls : List (Nat × Value)} {rest : List Value} {Q : Option Value → Sto → Prop} {σ : Sto} {i kd n cl lv b : Nat} {M' : MI} {As : List Value}
theorem rmOK {R : Room} {M M' : MI} (hv : miV M' < miV M) (h1 : miV M ≤ R.frames) (h2 : 27 * miV M + 27 ≤ R.locals) (h3 : miL M' ≤ 8) (N N' : Nat) : (rmM M' N N').frames + 1 ≤ R.frames ∧ 8 + (miL M' + 11) + (rmM M' N N').locals ≤ R.locals := by
  refine ⟨?_, ?_⟩
  · show miV M' + 1 ≤ R.frames
    omega
  · show 8 + (miL M' + 11) + (27 * miV M' + 27) ≤ R.locals
    omega
theorem rest_ok {g : Gam} {s : State} {N N0 N1 N' : Nat} {R : Room} (hN : N0 ≤ N ∧ N ≤ N1 ∧ N1 - N0 ≤ R.cells ∧ SL N1 - SL N0 ≤ R.slots ∧ s.heap.size = gz g + N0) (hN' : N ≤ N' ∧ N' ≤ N1) : N - N0 + (N' - N) ≤ R.cells ∧ SL N - SL N0 + (SL N' - SL N) ≤ R.slots := by
  have m1 := SL_mono hN.1
  have m2 := SL_mono hN'.1
  have m3 := SL_mono hN'.2
  omega
theorem V_callV (hm : callOK (miC M) i 0 n cl lv M') (hd : decode (miB M) pc = .ok (.invokevirtual i, 3)) (hlv : lv < miV M) (hn : As.length = n) (hc : (rest.map fun v => v.category).sum ≤ 8) (hb : b < N) (hs : sh b = (0, cl)) (hcl : cl < 9)
    (hN' : N' ≤ N1) {Q' : Option Value → Sto → Prop} (hcon : Con M' N N' σ (.ref b :: As) Q') (hk : ∀ v σ', Q' v σ' → V M N1 (pc + 3) ls (v.toList ++ rest) N' σ' Q) : V M N1 pc ls (As.reverse ++ .ref b :: rest) N σ Q := by
  intro p l e R s m args below meth c g N0 H locs lsA Zq C hW hS hN hl hret
  obtain ⟨hok, har, hini, hmh, rfl, rfl, hlk, hin, hsel⟩ := hm
  obtain ⟨hx, hbc, hml, hown, hts, hinit, hfr, hlo, hC, hz⟩ := id C
  refine W_size hW hS hN (fun hsz => ?_)
  have hrun := va_runV (p := p) (l := l) (e := e) (R := R) (s := s) (m := m) (args := args) (below := below) (meth := meth) (c := c) (H := H) (locs := locs) (cells := N - N0) (slots := SL N - SL N0) (own := RXs (miC M)) (C := (miN M').cls) (b := gz g + b) (As := As.map (tr g)) (rest := rest.map (tr g)) (g := F0 m pc lsA ((As.reverse ++ .ref b :: rest).map (tr g))) (nL := miL M) (cc := miB M)
    ⟨hx, hbc, hml, hown, hts⟩ (hcon.2 l g)
    (cwV (bytes := miB M') (maxL := miL M') (ret := miR M') (ws' := UW) n hts (goodIn_app (gW (fun w hw => by
        simp only [List.mem_cons, List.not_mem_nil, or_false] at hw
        rcases hw with e | e | e | e <;> rw [e] <;> assumption)) (gW (Wx_in hok))) rfl rfl rfl ⟨rfl, hmh.1, hmh.2, har⟩ (rmOK hlv hfr hlo hok.2.2.2 N N'))
    ⟨PP_blind g N σ _, by
        have hcc := va_recv (q0 := b) (a := gz g + b) (fs := (List.range (nFs (miC M'))).map (fun k => tr g (gv σ b (miC M') k))) hC.1 hW.2 (clAt _ hcl) (by rw [wl_at hb, cel_o hs])
        rw [hok.2.2.1]
        exact hcc, fun U hU hWU => ⟨by simp [tr], by rw [hU]; exact hW, Cx.at hC hz hS hU hWU, by rw [hU]; exact hsz⟩⟩
    rfl (by rw [List.length_map]; exact hn) hl.1 (by simp [tr]) (cat_le hc) hd (rest_ok (g := g) hN ⟨hcon.1, hN'⟩)
  exact V_back ⟨hcon.1, hN'⟩ hk C hS hN hl hret hrun
theorem V_callS (hm : callOK (miC M) i 1 n cl lv M') (hd : decode (miB M) pc = .ok (.invokestatic i, 3)) (hlv : lv < miV M) (hn : As.length = n) (hc : (rest.map fun v => v.category).sum ≤ 8)
    (hN' : N' ≤ N1) {Q' : Option Value → Sto → Prop} (hcon : Con M' N N' σ As Q') (hk : ∀ v σ', Q' v σ' → V M N1 (pc + 3) ls (v.toList ++ rest) N' σ' Q) : V M N1 pc ls (As.reverse ++ rest) N σ Q := by
  intro p l e R s m args below meth c g N0 H locs lsA Zq C hW hS hN hl hret
  obtain ⟨hok, har, hini, hmh, rfl, rfl, hlk, hst⟩ := hm
  obtain ⟨hx, hbc, hml, hown, hts, hinit, hfr, hlo, hC, hz⟩ := id C
  refine W_size hW hS hN (fun hsz => ?_)
  have hrun := va_runS (p := p) (l := l) (e := e) (R := R) (s := s) (m := m) (args := args) (below := below) (meth := meth) (c := c) (H := H) (locs := locs) (cells := N - N0) (slots := SL N - SL N0) (own := RXs (miC M)) (As := As.map (tr g)) (rest := rest.map (tr g)) (g := F0 m pc lsA ((As.reverse ++ rest).map (tr g))) (nL := miL M) (cc := miB M)
    ⟨hx, hbc, hml, hown, hts⟩ (hcon.2 l g)
    ⟨callB_of (bytes := miB M') (maxL := miL M') (ret := miR M') (ws' := UW) n hts (gW (Wx_in hok)) rfl rfl rfl (hts _ hini) (hts _ hlk) ⟨hmh.1, hmh.2, har⟩ (rmOK hlv hfr hlo hok.2.2.2 N N'), hts _ hst⟩
    ⟨PP_blind g N σ _, fun U hU hWU => ⟨rfl, by rw [hU]; exact hW, Cx.at hC hz hS hU hWU, by rw [hU]; exact hsz⟩⟩
    rfl (by rw [List.length_map]; exact hn) hl.1 (by simp) (cat_le hc) hd (rest_ok (g := g) hN ⟨hcon.1, hN'⟩)
  exact V_back ⟨hcon.1, hN'⟩ hk C hS hN hl hret hrun
theorem V_callI (hm : callOK (miC M) i 2 n cl lv M') (hd : decode (miB M) pc = .ok (.invokespecial i, 3)) (hlv : lv < miV M) (hn : As.length = n) (hc : (rest.map fun v => v.category).sum ≤ 8)
    (hN' : N' ≤ N1) {Q' : Option Value → Sto → Prop} (hcon : Con M' N N' σ (.ref b :: As) Q') (hk : ∀ v σ', Q' v σ' → V M N1 (pc + 3) ls (v.toList ++ rest) N' σ' Q) : V M N1 pc ls (As.reverse ++ .ref b :: rest) N σ Q := by
  intro p l e R s m args below meth c g N0 H locs lsA Zq C hW hS hN hl hret
  obtain ⟨hok, har, hini, hmh, rfl, rfl, hlk, hin, hnm, hrn⟩ := hm
  obtain ⟨hx, hbc, hml, hown, hts, hinit, hfr, hlo, hC, hz⟩ := id C
  refine W_size hW hS hN (fun hsz => ?_)
  have hrun := va_runI (p := p) (l := l) (e := e) (R := R) (s := s) (m := m) (args := args) (below := below) (meth := meth) (c := c) (H := H) (locs := locs) (cells := N - N0) (slots := SL N - SL N0) (own := RXs (miC M)) (b := gz g + b) (As := As.map (tr g)) (rest := rest.map (tr g)) (g := F0 m pc lsA ((As.reverse ++ .ref b :: rest).map (tr g))) (nL := miL M) (cc := miB M)
    ⟨hx, hbc, hml, hown, hts⟩ (hcon.2 l g)
    (cwI (bytes := miB M') (maxL := miL M') (ws' := UW) n hts (gW (Wx_in hok)) (by rw [Wx, hrn]) rfl rfl (hts _ hini) (hts _ hlk) (hts _ hin) hnm ⟨hmh.1, hmh.2, har⟩ (rmOK hlv hfr hlo hok.2.2.2 N N'))
    ⟨PP_blind g N σ _, fun U hU hWU => ⟨by simp [tr], by rw [hU]; exact hW, Cx.at hC hz hS hU hWU, by rw [hU]; exact hsz⟩⟩
    rfl (by rw [List.length_map]; exact hn) hl.1 (by simp [tr]) (cat_le hc) hd (rest_ok (g := g) hN ⟨hcon.1, hN'⟩)
  exact V_back ⟨hcon.1, hN'⟩ hk C hS hN hl hret hrun
theorem V_callSN (hm : callOK (miC M) i 3 n cl lv M') (hd : decode (miB M) pc = .ok (.invokestatic i, 3)) (hlv : lv < miV M) (hn : As.length = n) (hc : (rest.map fun v => v.category).sum ≤ 8)
    (hN' : N' ≤ N1) {Q' : Option Value → Sto → Prop} (hcon : Con M' N N' σ As Q') (hk : ∀ v σ', Q' v σ' → V M N1 (pc + 3) ls (v.toList ++ rest) N' σ' Q) : V M N1 pc ls (As.reverse ++ rest) N σ Q := by
  intro p l e R s m args below meth c g N0 H locs lsA Zq C hW hS hN hl hret
  obtain ⟨hok, har, hini, hmh, rfl, rfl, hlk, hst⟩ := hm
  obtain ⟨hx, hbc, hml, hown, hts, hinit, hfr, hlo, hC, hz⟩ := id C
  refine W_size hW hS hN (fun hsz => ?_)
  have hrun := va_runSN (p := p) (l := l) (e := e) (R := R) (s := s) (m := m) (args := args) (below := below) (meth := meth) (c := c) (H := H) (locs := locs) (cells := N - N0) (slots := SL N - SL N0) (own := RXs (miC M)) (host := RX7) (As := As.map (tr g)) (rest := rest.map (tr g)) (g := F0 m pc lsA ((As.reverse ++ rest).map (tr g))) (nL := miL M) (cc := miB M)
    ⟨hx, hbc, hml, hown, hts⟩ (hcon.2 l g)
    ⟨va_cnB (bytes := miB M') (maxL := miL M') (ret := miR M') (ws' := UW) n hts (gW (Wx_in hok)) rfl rfl rfl (hC.2.1 _ hlk) (hts _ hini) ⟨hmh.1, hmh.2, har⟩ (rmOK hlv hfr hlo hok.2.2.2 N N'), hts _ hst, trivial⟩
    ⟨PP_blind g N σ _, fun U hU hWU => ⟨rfl, by rw [hU]; exact hW, Cx.at hC hz hS hU hWU, by rw [hU]; exact hsz⟩⟩
    rfl (by rw [List.length_map]; exact hn) hl.1 (by simp) (cat_le hc) hd (rest_ok (g := g) hN ⟨hcon.1, hN'⟩)
  exact V_back ⟨hcon.1, hN'⟩ hk C hS hN hl hret hrun
theorem V_callIN (hm : callOK (miC M) i 4 n cl lv M') (hd : decode (miB M) pc = .ok (.invokespecial i, 3)) (hlv : lv < miV M) (hn : As.length = n) (hc : (rest.map fun v => v.category).sum ≤ 8)
    (hN' : N' ≤ N1) {Q' : Option Value → Sto → Prop} (hcon : Con M' N N' σ (.ref b :: As) Q') (hk : ∀ v σ', Q' v σ' → V M N1 (pc + 3) ls (v.toList ++ rest) N' σ' Q) : V M N1 pc ls (As.reverse ++ .ref b :: rest) N σ Q := by
  intro p l e R s m args below meth c g N0 H locs lsA Zq C hW hS hN hl hret
  obtain ⟨hok, har, hini, hmh, rfl, rfl, hlk, hin, hnm, hrn⟩ := hm
  obtain ⟨hx, hbc, hml, hown, hts, hinit, hfr, hlo, hC, hz⟩ := id C
  refine W_size hW hS hN (fun hsz => ?_)
  have hrun := va_runIN (p := p) (l := l) (e := e) (R := R) (s := s) (m := m) (args := args) (below := below) (meth := meth) (c := c) (H := H) (locs := locs) (cells := N - N0) (slots := SL N - SL N0) (own := RXs (miC M)) (host := RX7) (b := gz g + b) (As := As.map (tr g)) (rest := rest.map (tr g)) (g := F0 m pc lsA ((As.reverse ++ .ref b :: rest).map (tr g))) (nL := miL M) (cc := miB M)
    ⟨hx, hbc, hml, hown, hts⟩ (hcon.2 l g)
    ⟨va_cnB (bytes := miB M') (maxL := miL M') (ret := none) (ws' := UW) n hts (gW (Wx_in hok)) (by rw [Wx, hrn]) rfl rfl (hC.2.1 _ hlk) (hts _ hini) ⟨hmh.1, hmh.2, har⟩ (rmOK hlv hfr hlo hok.2.2.2 N N'), hnm, hts _ hin⟩
    ⟨PP_blind g N σ _, fun U hU hWU => ⟨by simp [tr], by rw [hU]; exact hW, Cx.at hC hz hS hU hWU, by rw [hU]; exact hsz⟩⟩
    rfl (by rw [List.length_map]; exact hn) hl.1 (by simp [tr]) (cat_le hc) hd (rest_ok (g := g) hN ⟨hcon.1, hN'⟩)
  exact V_back ⟨hcon.1, hN'⟩ hk C hS hN hl hret hrun
end CALLS
end
section
/-! ROWS: an instruction each, over V -/
section ROWS
variable {M : MI} {N N1 pc : Nat} {ls : List (Nat × Value)} {st : List Value} {Q : Option Value → Sto → Prop} {σ : Sto}
theorem V_lift {pc' : Nat} {st' : List Value} (h : ∀ {p : Program} {l : Launch} {e : Env} {R : Room} {s : State} {m : MethodId} {args : Array Value} {below : List Frame} {meth : Method} {c : Code} {g : Gam} {H : Heap} {locs : List Loc} {cells slots : Nat} {lsA : Array Slot} {Zq : State → Prop}, Ctx M p R s m args meth c g → c.maxLocals = lsA.size → cells ≤ R.cells → slots ≤ R.slots → lv_has lsA (miL M) (ls.map (fun q => (q.1, tr g q.2))) → W p l e R s m args below meth c H locs cells slots Zq (F0 m pc' lsA (st'.map (tr g))) → W p l e R s m args below meth c H locs cells slots Zq (F0 m pc lsA (st.map (tr g)))) (k : V M N1 pc' ls st' N σ Q) : V M N1 pc ls st N σ Q := by
  intro p l e R s m args below meth c g N0 H locs lsA Zq C hW hS hN hl hret
  have m1 := SL_mono hN.2.1
  exact h C (by rw [C.2.2.1, hl.1]) (by omega) (by omega) hl (k p l e R s m args below meth c g N0 H locs lsA Zq C hW hS hN hl hret)
theorem V_br {P1 P2 : Prop} {t1 t2 : Nat} {st' : List Value} (h : ∀ {p : Program} {l : Launch} {e : Env} {R : Room} {s : State} {m : MethodId} {args : Array Value} {below : List Frame} {meth : Method} {c : Code} {g : Gam} {H : Heap} {locs : List Loc} {cells slots : Nat} {lsA : Array Slot} {Zq : State → Prop}, Ctx M p R s m args meth c g → (P1 → W p l e R s m args below meth c H locs cells slots Zq (F0 m t1 lsA (st'.map (tr g)))) → (P2 → W p l e R s m args below meth c H locs cells slots Zq (F0 m t2 lsA (st'.map (tr g)))) → W p l e R s m args below meth c H locs cells slots Zq (F0 m pc lsA (st.map (tr g)))) (k1 : P1 → V M N1 t1 ls st' N σ Q) (k2 : P2 → V M N1 t2 ls st' N σ Q) : V M N1 pc ls st N σ Q := by
  intro p l e R s m args below meth c g N0 H locs lsA Zq C hW hS hN hl hret
  exact h C (fun q => k1 q p l e R s m args below meth c g N0 H locs lsA Zq C hW hS hN hl hret) (fun q => k2 q p l e R s m args below meth c g N0 H locs lsA Zq C hW hS hN hl hret)
theorem V_iconst {n : Int} (hd : decode (miB M) pc = .ok (.iconst n, 1)) (k : V M N1 (pc + 1) ls (zI n :: st) N σ Q) : V M N1 pc ls st N σ Q := V_lift (fun C _ _ _ _ k => lv_iconst C.1 C.2.1 hd rfl k) k
theorem zi_8 {n : Int} (h : -128 ≤ n ∧ n < 128) : (Int8.ofInt n).toInt32 = Int32.ofInt n := by
  apply Int32.toInt_inj.mp
  rw [zi_to (by omega), Int8.toInt_toInt32, Int8.toInt_ofInt_of_le (by have := h.1; omega) (by have := h.2; omega)]
theorem zi_16 {n : Int} (h : -32768 ≤ n ∧ n < 32768) : (Int16.ofInt n).toInt32 = Int32.ofInt n := by
  apply Int32.toInt_inj.mp
  rw [zi_to (by omega), Int16.toInt_toInt32, Int16.toInt_ofInt_of_le (by have := h.1; omega) (by have := h.2; omega)]
theorem V_bipush {n : Int} (hn : -128 ≤ n ∧ n < 128) (hd : decode (miB M) pc = .ok (.bipush n, 2)) (k : V M N1 (pc + 2) ls (zI n :: st) N σ Q) : V M N1 pc ls st N σ Q := V_lift (fun C _ _ _ _ k => lv_bipush C.1 C.2.1 hd rfl (by rw [zi_8 hn]; exact k)) k
theorem V_sipush {n : Int} (hn : -32768 ≤ n ∧ n < 32768) (hd : decode (miB M) pc = .ok (.sipush n, 3)) (k : V M N1 (pc + 3) ls (zI n :: st) N σ Q) : V M N1 pc ls st N σ Q := V_lift (fun C _ _ _ _ k => lv_sipush C.1 C.2.1 hd rfl (by rw [zi_16 hn]; exact k)) k
theorem V_lconst {n : Fin 2} (hd : decode (miB M) pc = .ok (.lconst n, 1)) (k : V M N1 (pc + 1) ls (.long (Int64.ofNat (n : Nat)) :: st) N σ Q) : V M N1 pc ls st N σ Q := V_lift (fun C _ _ _ _ k => lv_lconst C.1 C.2.1 hd rfl k) k
theorem V_null (hd : decode (miB M) pc = .ok (.aconst_null, 1)) (k : V M N1 (pc + 1) ls (.null :: st) N σ Q) : V M N1 pc ls st N σ Q := V_lift (fun C _ _ _ _ k => lv_null C.1 C.2.1 hd k) k
/-- the local k -/
def lk (k : Nat) : List (Nat × Value) → Option Value
  | [] => none
  | q :: r => if q.1 = k then some q.2 else lk k r
theorem lk_in {k : Nat} {v : Value} : ∀ {l : List (Nat × Value)}, lk k l = some v → (k, v) ∈ l
  | q :: r, h => by
    unfold lk at h
    by_cases e : q.1 = k
    · rw [if_pos e] at h
      rw [← Option.some.inj h, ← e]
      exact List.mem_cons_self
    · rw [if_neg e] at h
      exact List.mem_cons_of_mem _ (lk_in h)
theorem lk_at {g : Gam} {lsA : Array Slot} {nL k : Nat} {v : Value} {l : List (Nat × Value)} (hl : lv_has lsA nL (l.map (fun q => (q.1, tr g q.2)))) (h : lk k l = some v) : lsA[k]? = some (.val (tr g v)) :=
  hl.2.2 (k, tr g v) (List.mem_map.mpr ⟨(k, v), lk_in h, rfl⟩)
theorem V_iload_n {k : Fin 4} {e : Int} (hd : decode (miB M) pc = .ok (.iload_n k, 1)) (hv : lk (k : Nat) ls = some (zI e)) (k : V M N1 (pc + 1) ls (zI e :: st) N σ Q) : V M N1 pc ls st N σ Q := V_lift (fun C _ _ _ hl k => lv_iload_n C.1 C.2.1 hd rfl (lk_at hl hv) k) k
theorem V_aload_n {k : Fin 4} {v : Value} (hd : decode (miB M) pc = .ok (.aload_n k, 1)) (hv : lk (k : Nat) ls = some v) (hr : (∃ i, v = .ref i) ∨ v = .null ∨ ∃ i, v = .retAddr i) (k : V M N1 (pc + 1) ls (v :: st) N σ Q) : V M N1 pc ls st N σ Q := by
  rcases hr with ⟨j, rfl⟩ | rfl | ⟨j, rfl⟩
  · exact V_lift (fun C _ _ _ hl k => lv_aload_n C.1 C.2.1 hd rfl (lk_at hl hv) k) k
  · exact V_lift (fun C _ _ _ hl k => lv_aload_nN C.1 C.2.1 hd rfl (lk_at hl hv) k) k
  · exact V_lift (fun C _ _ _ hl k => lv_aload_n C.1 C.2.1 hd rfl (lk_at hl hv) k) k
theorem V_lload_n {k : Fin 4} {x : Int64} (hd : decode (miB M) pc = .ok (.lload_n k, 1)) (hv : lk (k : Nat) ls = some (.long x)) (k : V M N1 (pc + 1) ls (.long x :: st) N σ Q) : V M N1 pc ls st N σ Q := V_lift (fun C _ _ _ hl k => lv_lload_n C.1 C.2.1 hd rfl (lk_at hl hv) k) k
theorem V_iload {i : Nat} {e : Int} (hd : decode (miB M) pc = .ok (.iload i, 2)) (hv : lk i ls = some (zI e)) (k : V M N1 (pc + 2) ls (zI e :: st) N σ Q) : V M N1 pc ls st N σ Q := V_lift (fun C _ _ _ hl k => lv_iload C.1 C.2.1 hd (lk_at hl hv) k) k
theorem V_aload {i : Nat} {v : Value} (hd : decode (miB M) pc = .ok (.aload i, 2)) (hv : lk i ls = some v) (hr : (∃ i, v = .ref i) ∨ v = .null ∨ ∃ i, v = .retAddr i) (k : V M N1 (pc + 2) ls (v :: st) N σ Q) : V M N1 pc ls st N σ Q := by
  rcases hr with ⟨j, rfl⟩ | rfl | ⟨j, rfl⟩
  · exact V_lift (fun C _ _ _ hl k => lv_aload C.1 C.2.1 hd (lk_at hl hv) k) k
  · exact V_lift (fun C _ _ _ hl k => lv_aloadN C.1 C.2.1 hd (lk_at hl hv) k) k
  · exact V_lift (fun C _ _ _ hl k => lv_aload C.1 C.2.1 hd (lk_at hl hv) k) k
theorem V_lload {i : Nat} {x : Int64} (hd : decode (miB M) pc = .ok (.lload i, 2)) (hv : lk i ls = some (.long x)) (k : V M N1 (pc + 2) ls (.long x :: st) N σ Q) : V M N1 pc ls st N σ Q := V_lift (fun C _ _ _ hl k => lv_lload C.1 C.2.1 hd (lk_at hl hv) k) k
/-- a local set: what overlaps it goes -/
def lrm (k : Nat) : List (Nat × Value) → List (Nat × Value)
  | [] => []
  | q :: r => if q.1 = k ∨ (q.1 + 1 = k ∧ q.2.category = 2) then lrm k r else q :: lrm k r
def lins (k : Nat) (v : Value) : List (Nat × Value) → List (Nat × Value)
  | [] => [(k, v)]
  | q :: r => if k < q.1 then (k, v) :: q :: r else q :: lins k v r
def lset (k : Nat) (v : Value) (l : List (Nat × Value)) : List (Nat × Value) := lins k v (lrm k l)
def lset2 (k : Nat) (v : Value) (l : List (Nat × Value)) : List (Nat × Value) := lins k v (lrm k (lrm (k + 1) l))
theorem lins_in {k : Nat} {v : Value} {q : Nat × Value} : ∀ {l : List (Nat × Value)}, q ∈ lins k v l → q = (k, v) ∨ q ∈ l
  | [], h => Or.inl (List.mem_singleton.mp h)
  | a :: r, h => by
    unfold lins at h
    split at h
    · rcases List.mem_cons.mp h with e | e
      · exact Or.inl e
      · exact Or.inr e
    · rcases List.mem_cons.mp h with e | e
      · exact Or.inr (e ▸ List.mem_cons_self)
      · rcases lins_in e with e | e
        · exact Or.inl e
        · exact Or.inr (List.mem_cons_of_mem _ e)
theorem lrm_in {k : Nat} {q : Nat × Value} : ∀ {l : List (Nat × Value)}, q ∈ lrm k l → q ∈ l ∧ ¬ (q.1 = k ∨ (q.1 + 1 = k ∧ q.2.category = 2))
  | a :: r, h => by
    unfold lrm at h
    split at h
    · obtain ⟨h1, h2⟩ := lrm_in h
      exact ⟨List.mem_cons_of_mem _ h1, h2⟩
    · next hn =>
      rcases List.mem_cons.mp h with e | e
      · rw [e]; exact ⟨List.mem_cons_self, hn⟩
      · obtain ⟨h1, h2⟩ := lrm_in e
        exact ⟨List.mem_cons_of_mem _ h1, h2⟩
theorem lset_has {g : Gam} {lsA : Array Slot} {nL k : Nat} {v : Value} {l : List (Nat × Value)} (h : lv_has lsA nL ((k, tr g v) :: (l.map (fun q => (q.1, tr g q.2))).filter (fun q => !(q.1 == k) && !(q.1 + 1 == k && q.2.category == 2)))) : lv_has lsA nL ((lset k v l).map (fun q => (q.1, tr g q.2))) := by
  refine ⟨h.1, h.2.1, fun q hq => ?_⟩
  obtain ⟨x, hx, rfl⟩ := List.mem_map.mp hq
  rcases lins_in hx with e | e
  · subst e
    exact h.2.2 _ List.mem_cons_self
  · obtain ⟨h1, h2⟩ := lrm_in e
    refine h.2.2 _ (List.mem_cons_of_mem _ (List.mem_filter.mpr ⟨List.mem_map.mpr ⟨x, h1, rfl⟩, ?_⟩))
    simp only [tr_cat]
    have a1 : (x.1 == k) = false := by simpa using fun z => h2 (Or.inl z)
    have a2 : (x.1 + 1 == k && x.2.category == 2) = false := by
      cases hq : (x.1 + 1 == k && x.2.category == 2) with
      | false => rfl
      | true =>
        simp only [Bool.and_eq_true, beq_iff_eq] at hq
        exact absurd (Or.inr hq) h2
    rw [a1, a2]
    rfl
theorem lset2_has {g : Gam} {lsA : Array Slot} {nL k : Nat} {v : Value} {l : List (Nat × Value)} (h : lv_has lsA nL ((k, tr g v) :: (l.map (fun q => (q.1, tr g q.2))).filter (fun q => !(q.1 == k) && (!(q.1 == k + 1) && !(q.1 + 1 == k && q.2.category == 2))))) : lv_has lsA nL ((lset2 k v l).map (fun q => (q.1, tr g q.2))) := by
  refine ⟨h.1, h.2.1, fun q hq => ?_⟩
  obtain ⟨x, hx, rfl⟩ := List.mem_map.mp hq
  rcases lins_in hx with e | e
  · subst e
    exact h.2.2 _ List.mem_cons_self
  · obtain ⟨h1, h2⟩ := lrm_in e
    obtain ⟨h3, h4⟩ := lrm_in h1
    refine h.2.2 _ (List.mem_cons_of_mem _ (List.mem_filter.mpr ⟨List.mem_map.mpr ⟨x, h3, rfl⟩, ?_⟩))
    simp only [tr_cat]
    have a1 : (x.1 == k) = false := by simpa using fun z => h2 (Or.inl z)
    have a3 : (x.1 == k + 1) = false := by simpa using fun z => h4 (Or.inl z)
    have a2 : (x.1 + 1 == k && x.2.category == 2) = false := by
      cases hq : (x.1 + 1 == k && x.2.category == 2) with
      | false => rfl
      | true =>
        simp only [Bool.and_eq_true, beq_iff_eq] at hq
        exact absurd (Or.inr hq) h2
    rw [a1, a2, a3]
    rfl
theorem V_istore_n {k : Fin 4} {e : Int} (hd : decode (miB M) pc = .ok (.istore_n k, 1)) (hn : (k : Nat) < miL M) (kk : V M N1 (pc + 1) (lset (k : Nat) (zI e) ls) st N σ Q) : V M N1 pc ls (zI e :: st) N σ Q := by
  intro p l e R s m args below meth c g N0 H locs lsA Zq C hW hS hN hl hret
  exact lv_istore_n C.1 C.2.1 hd rfl hl hn rfl (fun ls' h => kk p l e R s m args below meth c g N0 H locs ls' Zq C hW hS hN (lset_has h) hret)
theorem V_astore_n {k : Fin 4} {v : Value} (hd : decode (miB M) pc = .ok (.astore_n k, 1)) (hr : (∃ i, v = .ref i) ∨ v = .null ∨ ∃ i, v = .retAddr i) (hn : (k : Nat) < miL M) (kk : V M N1 (pc + 1) (lset (k : Nat) v ls) st N σ Q) : V M N1 pc ls (v :: st) N σ Q := by
  intro p l e R s m args below meth c g N0 H locs lsA Zq C hW hS hN hl hret
  rcases hr with ⟨j, rfl⟩ | rfl | ⟨j, rfl⟩
  · exact lv_astore_n C.1 C.2.1 hd rfl hl hn rfl (fun ls' h => kk p l e R s m args below meth c g N0 H locs ls' Zq C hW hS hN (lset_has (v := .ref j) h) hret)
  · exact lv_astore_nN C.1 C.2.1 hd rfl hl hn rfl (fun ls' h => kk p l e R s m args below meth c g N0 H locs ls' Zq C hW hS hN (lset_has (v := .null) h) hret)
  · exact lv_astore_n C.1 C.2.1 hd rfl hl hn rfl (fun ls' h => kk p l e R s m args below meth c g N0 H locs ls' Zq C hW hS hN (lset_has (v := .retAddr j) h) hret)
theorem V_lstore_n {k : Fin 4} {x : Int64} (hd : decode (miB M) pc = .ok (.lstore_n k, 1)) (hn : (k : Nat) + 1 < miL M) (kk : V M N1 (pc + 1) (lset2 (k : Nat) (.long x) ls) st N σ Q) : V M N1 pc ls (.long x :: st) N σ Q := by
  intro p l e R s m args below meth c g N0 H locs lsA Zq C hW hS hN hl hret
  exact lv_lstore_n C.1 C.2.1 hd rfl hl hn rfl (fun ls' h => kk p l e R s m args below meth c g N0 H locs ls' Zq C hW hS hN (lset2_has (v := .long x) h) hret)
theorem V_istore {i : Nat} {e : Int} (hd : decode (miB M) pc = .ok (.istore i, 2)) (hn : i < miL M) (kk : V M N1 (pc + 2) (lset i (zI e) ls) st N σ Q) : V M N1 pc ls (zI e :: st) N σ Q := by
  intro p l e R s m args below meth c g N0 H locs lsA Zq C hW hS hN hl hret
  exact lv_istore C.1 C.2.1 hd hl hn rfl (fun ls' h => kk p l e R s m args below meth c g N0 H locs ls' Zq C hW hS hN (lset_has h) hret)
theorem V_astore {i : Nat} {v : Value} (hd : decode (miB M) pc = .ok (.astore i, 2)) (hr : (∃ i, v = .ref i) ∨ v = .null ∨ ∃ i, v = .retAddr i) (hn : i < miL M) (kk : V M N1 (pc + 2) (lset i v ls) st N σ Q) : V M N1 pc ls (v :: st) N σ Q := by
  intro p l e R s m args below meth c g N0 H locs lsA Zq C hW hS hN hl hret
  rcases hr with ⟨j, rfl⟩ | rfl | ⟨j, rfl⟩
  · exact lv_astore C.1 C.2.1 hd hl hn rfl (fun ls' h => kk p l e R s m args below meth c g N0 H locs ls' Zq C hW hS hN (lset_has (v := .ref j) h) hret)
  · exact lv_astoreN C.1 C.2.1 hd hl hn rfl (fun ls' h => kk p l e R s m args below meth c g N0 H locs ls' Zq C hW hS hN (lset_has (v := .null) h) hret)
  · exact lv_astore C.1 C.2.1 hd hl hn rfl (fun ls' h => kk p l e R s m args below meth c g N0 H locs ls' Zq C hW hS hN (lset_has (v := .retAddr j) h) hret)
theorem V_lstore {i : Nat} {x : Int64} (hd : decode (miB M) pc = .ok (.lstore i, 2)) (hn : i + 1 < miL M) (kk : V M N1 (pc + 2) (lset2 i (.long x) ls) st N σ Q) : V M N1 pc ls (.long x :: st) N σ Q := by
  intro p l e R s m args below meth c g N0 H locs lsA Zq C hW hS hN hl hret
  exact lv_lstore C.1 C.2.1 hd hl hn rfl (fun ls' h => kk p l e R s m args below meth c g N0 H locs ls' Zq C hW hS hN (lset2_has (v := .long x) h) hret)
theorem lk_place {g : Gam} {k : Nat} {v : Value} {l : List (Nat × Value)} (h : lk k l = some v) : ∃ j : Nat, (l.map (fun q => (q.1, tr g q.2)))[j]? = some (k, tr g v) := by
  obtain ⟨j, hj⟩ := List.getElem?_of_mem (lk_in h)
  exact ⟨j, by rw [List.getElem?_map, hj]; rfl⟩
theorem V_iinc {i : Nat} {n e : Int} (hd : decode (miB M) pc = .ok (.iinc i n, 3)) (hv : lk i ls = some (zI e)) (hn : i < miL M) (kk : V M N1 (pc + 3) (lset i (zI (e + n)) ls) st N σ Q) : V M N1 pc ls st N σ Q := by
  intro p l e' R s m args below meth c g N0 H locs lsA Zq C hW hS hN hl hret
  obtain ⟨j, hj⟩ := lk_place (g := g) hv
  exact lv_iinc (k := j) (x := Int32.ofInt e) C.1 C.2.1 hd hl hj rfl hn rfl (fun ls' h => kk p l e' R s m args below meth c g N0 H locs ls' Zq C hW hS hN (lset_has (v := zI (e + n)) (by rw [zi_add] at h; exact h)) hret)
theorem V_iadd {x y : Int} (hd : decode (miB M) pc = .ok (.iadd, 1)) (k : V M N1 (pc + 1) ls (zI (x + y) :: st) N σ Q) : V M N1 pc ls (zI y :: zI x :: st) N σ Q := V_lift (fun C _ _ _ _ k => lv_iadd C.1 C.2.1 hd (by rw [zi_add]; exact k)) k
theorem V_isub {x y : Int} (hd : decode (miB M) pc = .ok (.isub, 1)) (k : V M N1 (pc + 1) ls (zI (x - y) :: st) N σ Q) : V M N1 pc ls (zI y :: zI x :: st) N σ Q := V_lift (fun C _ _ _ _ k => lv_isub C.1 C.2.1 hd (by rw [zi_sub]; exact k)) k
theorem V_imul {x y : Int} (hd : decode (miB M) pc = .ok (.imul, 1)) (k : V M N1 (pc + 1) ls (zI (x * y) :: st) N σ Q) : V M N1 pc ls (zI y :: zI x :: st) N σ Q := V_lift (fun C _ _ _ _ k => lv_imul C.1 C.2.1 hd (by rw [zi_mul]; exact k)) k
def ba (x y : Int) : Int := (Int32.ofInt x &&& Int32.ofInt y).toInt
theorem V_iand {x y : Int} (hd : decode (miB M) pc = .ok (.iand, 1)) (k : V M N1 (pc + 1) ls (zI (ba x y) :: st) N σ Q) : V M N1 pc ls (zI y :: zI x :: st) N σ Q := V_lift (fun C _ _ _ _ k => lv_iand C.1 C.2.1 hd (by unfold ba at k; rw [show zI ((Int32.ofInt x &&& Int32.ofInt y).toInt) = Value.int (Int32.ofInt x &&& Int32.ofInt y) from congrArg Value.int (zi_of _)] at k; exact k)) k
theorem zi_nz {y : Int} (hy : 0 < y ∧ y < 2147483648) : ¬ Int32.ofInt y = 0 := fun z => by
  have h := congrArg Int32.toInt z
  rw [zi_to (by omega)] at h
  have h5 : (0 : Int32).toInt = 0 := by decide
  omega
theorem V_idiv {x y : Int} (hd : decode (miB M) pc = .ok (.idiv, 1)) (hx : 0 ≤ x ∧ x < 2147483648) (hy : 0 < y ∧ y < 2147483648) (k : V M N1 (pc + 1) ls (zI (x / y) :: st) N σ Q) : V M N1 pc ls (zI y :: zI x :: st) N σ Q := V_lift (fun C _ _ _ _ k => lv_idiv C.1 C.2.1 hd (zi_nz hy) (by rw [zi_div hx hy]; exact k)) k
theorem V_irem {x y : Int} (hd : decode (miB M) pc = .ok (.irem, 1)) (hx : 0 ≤ x ∧ x < 2147483648) (hy : 0 < y ∧ y < 2147483648) (k : V M N1 (pc + 1) ls (zI (x % y) :: st) N σ Q) : V M N1 pc ls (zI y :: zI x :: st) N σ Q := V_lift (fun C _ _ _ _ k => lv_irem C.1 C.2.1 hd (zi_nz hy) (by rw [zi_rem hx hy]; exact k)) k
theorem V_ineg {x : Int} (hd : decode (miB M) pc = .ok (.ineg, 1)) (k : V M N1 (pc + 1) ls (zI (-x) :: st) N σ Q) : V M N1 pc ls (zI x :: st) N σ Q := V_lift (fun C _ _ _ _ k => lv_ineg C.1 C.2.1 hd (by rw [zi_neg]; exact k)) k
theorem V_i2c {x : Int} (hx : 0 ≤ x ∧ x < 65536) (hd : decode (miB M) pc = .ok (.i2c, 1)) (k : V M N1 (pc + 1) ls (zI x :: st) N σ Q) : V M N1 pc ls (zI x :: st) N σ Q := V_lift (fun C _ _ _ _ k => lv_i2c C.1 C.2.1 hd rfl (by rw [zi_i2c hx]; exact k)) k
theorem V_l2i {x : Int64} (hd : decode (miB M) pc = .ok (.l2i, 1)) (k : V M N1 (pc + 1) ls (zI x.toInt32.toInt :: st) N σ Q) : V M N1 pc ls (.long x :: st) N σ Q := V_lift (fun C _ _ _ _ k => lv_l2i C.1 C.2.1 hd rfl (by rw [show zI x.toInt32.toInt = Value.int x.toInt32 from congrArg Value.int (zi_of _)] at k; exact k)) k
theorem V_land {x y : Int64} (hd : decode (miB M) pc = .ok (.land, 1)) (k : V M N1 (pc + 1) ls (.long (x &&& y) :: st) N σ Q) : V M N1 pc ls (.long y :: .long x :: st) N σ Q := V_lift (fun C _ _ _ _ k => lv_land C.1 C.2.1 hd k) k
theorem V_lshr {x : Int64} {y : Int} (hd : decode (miB M) pc = .ok (.lshr, 1)) (k : V M N1 (pc + 1) ls (.long (x >>> ((Int32.ofInt y).toInt64 &&& 63)) :: st) N σ Q) : V M N1 pc ls (zI y :: .long x :: st) N σ Q := V_lift (fun C _ _ _ _ k => lv_lshr C.1 C.2.1 hd rfl k) k
theorem V_lcmp {x y : Int64} (hd : decode (miB M) pc = .ok (.lcmp, 1)) (k : V M N1 (pc + 1) ls (zI (lg_cmp x y).toInt :: st) N σ Q) : V M N1 pc ls (.long y :: .long x :: st) N σ Q := V_lift (fun C _ _ _ _ k => W.lcmp C.1 C.2.1 hd (by rw [show zI (lg_cmp x y).toInt = Value.int (lg_cmp x y) from congrArg Value.int (zi_of _)] at k; exact k)) k
theorem V_dup {v : Value} (hd : decode (miB M) pc = .ok (.dup, 1)) (hc : v.category = 1) (k : V M N1 (pc + 1) ls (v :: v :: st) N σ Q) : V M N1 pc ls (v :: st) N σ Q := V_lift (fun C _ _ _ _ k => lv_dup C.1 C.2.1 hd (by rw [tr_cat]; exact hc) k) k
theorem V_pop {v : Value} (hd : decode (miB M) pc = .ok (.pop, 1)) (hc : v.category = 1) (k : V M N1 (pc + 1) ls st N σ Q) : V M N1 pc ls (v :: st) N σ Q := V_lift (fun C _ _ _ _ k => lv_pop C.1 C.2.1 hd (by rw [tr_cat]; exact hc) k) k
theorem V_dup2 {v w : Value} (hd : decode (miB M) pc = .ok (.dup2, 1)) (hc : v.category = 1) (hc2 : w.category = 1) (k : V M N1 (pc + 1) ls (v :: w :: v :: w :: st) N σ Q) : V M N1 pc ls (v :: w :: st) N σ Q := V_lift (fun C _ _ _ _ k => lv_dup2_11 C.1 C.2.1 hd (by rw [tr_cat]; exact hc) (by rw [tr_cat]; exact hc2) k) k
def tg (pc : Nat) (off : Int) : Nat := ((pc : Int) + off).toNat
theorem tg_ok {pc : Nat} {off : Int} (h : 0 ≤ (pc : Int) + off) : (pc : Int) + off = (tg pc off : Int) := by unfold tg; omega
theorem V_goto {off : Int} (hd : decode (miB M) pc = .ok (.goto off, 3)) (ht : 0 ≤ (pc : Int) + off) (k : V M N1 (tg pc off) ls st N σ Q) : V M N1 pc ls st N σ Q := V_lift (fun C _ _ _ _ k => lv_goto C.1 C.2.1 hd (tg_ok ht) k) k
theorem z0 : -2147483648 ≤ (0:Int) ∧ (0:Int) < 2147483648 := by decide
theorem V_if_eq {x off : Int} (hd : decode (miB M) pc = .ok (.ifCond .eq off, 3)) (ht : 0 ≤ (pc : Int) + off) (hx : -2147483648 ≤ x ∧ x < 2147483648) (kt : x = 0 → V M N1 (tg pc off) ls st N σ Q) (kf : ¬ x = 0 → V M N1 (pc + 3) ls st N σ Q) : V M N1 pc ls (zI x :: st) N σ Q := V_br (fun C k1 k2 => lv_if_eq C.1 C.2.1 hd (tg_ok ht) (fun q => k1 ((zi_eq hx z0).mp q)) (fun q => k2 (fun z => q ((zi_eq hx z0).mpr z)))) kt kf
theorem V_if_ne {x off : Int} (hd : decode (miB M) pc = .ok (.ifCond .ne off, 3)) (ht : 0 ≤ (pc : Int) + off) (hx : -2147483648 ≤ x ∧ x < 2147483648) (kt : ¬ x = 0 → V M N1 (tg pc off) ls st N σ Q) (kf : x = 0 → V M N1 (pc + 3) ls st N σ Q) : V M N1 pc ls (zI x :: st) N σ Q := V_br (fun C k1 k2 => lv_if_ne C.1 C.2.1 hd (tg_ok ht) (fun q => k1 (fun z => q ((zi_eq hx z0).mpr z))) (fun q => k2 ((zi_eq hx z0).mp q))) kt kf
theorem V_if_lt {x off : Int} (hd : decode (miB M) pc = .ok (.ifCond .lt off, 3)) (ht : 0 ≤ (pc : Int) + off) (hx : -2147483648 ≤ x ∧ x < 2147483648) (kt : x < 0 → V M N1 (tg pc off) ls st N σ Q) (kf : ¬ x < 0 → V M N1 (pc + 3) ls st N σ Q) : V M N1 pc ls (zI x :: st) N σ Q := V_br (fun C k1 k2 => lv_if_lt C.1 C.2.1 hd (tg_ok ht) (fun q => k1 ((zi_lt hx z0).mp q)) (fun q => k2 (fun z => q ((zi_lt hx z0).mpr z)))) kt kf
theorem V_if_ge {x off : Int} (hd : decode (miB M) pc = .ok (.ifCond .ge off, 3)) (ht : 0 ≤ (pc : Int) + off) (hx : -2147483648 ≤ x ∧ x < 2147483648) (kt : 0 ≤ x → V M N1 (tg pc off) ls st N σ Q) (kf : ¬ 0 ≤ x → V M N1 (pc + 3) ls st N σ Q) : V M N1 pc ls (zI x :: st) N σ Q := V_br (fun C k1 k2 => lv_if_ge C.1 C.2.1 hd (tg_ok ht) (fun q => k1 ((zi_le z0 hx).mp q)) (fun q => k2 (fun z => q ((zi_le z0 hx).mpr z)))) kt kf
theorem V_if_gt {x off : Int} (hd : decode (miB M) pc = .ok (.ifCond .gt off, 3)) (ht : 0 ≤ (pc : Int) + off) (hx : -2147483648 ≤ x ∧ x < 2147483648) (kt : 0 < x → V M N1 (tg pc off) ls st N σ Q) (kf : ¬ 0 < x → V M N1 (pc + 3) ls st N σ Q) : V M N1 pc ls (zI x :: st) N σ Q := V_br (fun C k1 k2 => lv_if_gt C.1 C.2.1 hd (tg_ok ht) (fun q => k1 ((zi_lt z0 hx).mp q)) (fun q => k2 (fun z => q ((zi_lt z0 hx).mpr z)))) kt kf
theorem V_if_le {x off : Int} (hd : decode (miB M) pc = .ok (.ifCond .le off, 3)) (ht : 0 ≤ (pc : Int) + off) (hx : -2147483648 ≤ x ∧ x < 2147483648) (kt : x ≤ 0 → V M N1 (tg pc off) ls st N σ Q) (kf : ¬ x ≤ 0 → V M N1 (pc + 3) ls st N σ Q) : V M N1 pc ls (zI x :: st) N σ Q := V_br (fun C k1 k2 => lv_if_le C.1 C.2.1 hd (tg_ok ht) (fun q => k1 ((zi_le hx z0).mp q)) (fun q => k2 (fun z => q ((zi_le hx z0).mpr z)))) kt kf
theorem V_icmp_eq {x y off : Int} (hd : decode (miB M) pc = .ok (.if_icmp .eq off, 3)) (ht : 0 ≤ (pc : Int) + off) (hx : -2147483648 ≤ x ∧ x < 2147483648) (hy : -2147483648 ≤ y ∧ y < 2147483648) (kt : x = y → V M N1 (tg pc off) ls st N σ Q) (kf : ¬ x = y → V M N1 (pc + 3) ls st N σ Q) : V M N1 pc ls (zI y :: zI x :: st) N σ Q := V_br (fun C k1 k2 => lv_icmp_eq C.1 C.2.1 hd (tg_ok ht) (fun q => k1 ((zi_eq hx hy).mp q)) (fun q => k2 (fun z => q ((zi_eq hx hy).mpr z)))) kt kf
theorem V_icmp_ne {x y off : Int} (hd : decode (miB M) pc = .ok (.if_icmp .ne off, 3)) (ht : 0 ≤ (pc : Int) + off) (hx : -2147483648 ≤ x ∧ x < 2147483648) (hy : -2147483648 ≤ y ∧ y < 2147483648) (kt : ¬ x = y → V M N1 (tg pc off) ls st N σ Q) (kf : x = y → V M N1 (pc + 3) ls st N σ Q) : V M N1 pc ls (zI y :: zI x :: st) N σ Q := V_br (fun C k1 k2 => lv_icmp_ne C.1 C.2.1 hd (tg_ok ht) (fun q => k1 (fun z => q ((zi_eq hx hy).mpr z))) (fun q => k2 ((zi_eq hx hy).mp q))) kt kf
theorem V_icmp_lt {x y off : Int} (hd : decode (miB M) pc = .ok (.if_icmp .lt off, 3)) (ht : 0 ≤ (pc : Int) + off) (hx : -2147483648 ≤ x ∧ x < 2147483648) (hy : -2147483648 ≤ y ∧ y < 2147483648) (kt : x < y → V M N1 (tg pc off) ls st N σ Q) (kf : ¬ x < y → V M N1 (pc + 3) ls st N σ Q) : V M N1 pc ls (zI y :: zI x :: st) N σ Q := V_br (fun C k1 k2 => lv_icmp_lt C.1 C.2.1 hd (tg_ok ht) (fun q => k1 ((zi_lt hx hy).mp q)) (fun q => k2 (fun z => q ((zi_lt hx hy).mpr z)))) kt kf
theorem V_icmp_ge {x y off : Int} (hd : decode (miB M) pc = .ok (.if_icmp .ge off, 3)) (ht : 0 ≤ (pc : Int) + off) (hx : -2147483648 ≤ x ∧ x < 2147483648) (hy : -2147483648 ≤ y ∧ y < 2147483648) (kt : y ≤ x → V M N1 (tg pc off) ls st N σ Q) (kf : ¬ y ≤ x → V M N1 (pc + 3) ls st N σ Q) : V M N1 pc ls (zI y :: zI x :: st) N σ Q := V_br (fun C k1 k2 => lv_icmp_ge C.1 C.2.1 hd (tg_ok ht) (fun q => k1 ((zi_le hy hx).mp q)) (fun q => k2 (fun z => q ((zi_le hy hx).mpr z)))) kt kf
theorem V_icmp_gt {x y off : Int} (hd : decode (miB M) pc = .ok (.if_icmp .gt off, 3)) (ht : 0 ≤ (pc : Int) + off) (hx : -2147483648 ≤ x ∧ x < 2147483648) (hy : -2147483648 ≤ y ∧ y < 2147483648) (kt : y < x → V M N1 (tg pc off) ls st N σ Q) (kf : ¬ y < x → V M N1 (pc + 3) ls st N σ Q) : V M N1 pc ls (zI y :: zI x :: st) N σ Q := V_br (fun C k1 k2 => lv_icmp_gt C.1 C.2.1 hd (tg_ok ht) (fun q => k1 ((zi_lt hy hx).mp q)) (fun q => k2 (fun z => q ((zi_lt hy hx).mpr z)))) kt kf
theorem V_icmp_le {x y off : Int} (hd : decode (miB M) pc = .ok (.if_icmp .le off, 3)) (ht : 0 ≤ (pc : Int) + off) (hx : -2147483648 ≤ x ∧ x < 2147483648) (hy : -2147483648 ≤ y ∧ y < 2147483648) (kt : x ≤ y → V M N1 (tg pc off) ls st N σ Q) (kf : ¬ x ≤ y → V M N1 (pc + 3) ls st N σ Q) : V M N1 pc ls (zI y :: zI x :: st) N σ Q := V_br (fun C k1 k2 => lv_icmp_le C.1 C.2.1 hd (tg_ok ht) (fun q => k1 ((zi_le hx hy).mp q)) (fun q => k2 (fun z => q ((zi_le hx hy).mpr z)))) kt kf
def acmpOK : Value → Prop
  | .ref _ => True
  | .null => True
  | _ => False
def rvO : Value → Option Nat
  | .ref i => some i
  | _ => none
theorem tr_O {g : Gam} {v : Value} (h : acmpOK v) : tr g v = va_rf ((rvO v).map (fun i => gz g + i)) := by
  cases v <;> first | rfl | exact h.elim
theorem rvO_inj {g : Gam} {v w : Value} (h1 : acmpOK v) (h2 : acmpOK w) : (rvO v).map (fun i => gz g + i) = (rvO w).map (fun i => gz g + i) ↔ v = w := by
  cases v <;> cases w <;> simp_all [acmpOK, rvO]
theorem V_acmp_eq {v w : Value} {off : Int} (hd : decode (miB M) pc = .ok (.if_acmp .eq off, 3)) (ht : 0 ≤ (pc : Int) + off) (h1 : acmpOK v) (h2 : acmpOK w) (kt : v = w → V M N1 (tg pc off) ls st N σ Q) (kf : ¬ v = w → V M N1 (pc + 3) ls st N σ Q) : V M N1 pc ls (w :: v :: st) N σ Q := by
  refine V_br (P1 := v = w) (P2 := ¬ v = w) (fun {p l e R s m args below meth c g H locs cells slots lsA Zq} C k1 k2 => ?_) kt kf
  show W p l e R s m args below meth c H locs cells slots Zq (F0 m pc lsA (tr g w :: tr g v :: st.map (tr g)))
  rw [tr_O h1, tr_O h2]
  exact lv_acmp_eq C.1 C.2.1 hd (tg_ok ht) (fun q => k1 ((rvO_inj h1 h2).mp q)) (fun q => k2 (fun z => q ((rvO_inj h1 h2).mpr z)))
theorem V_acmp_ne {v w : Value} {off : Int} (hd : decode (miB M) pc = .ok (.if_acmp .ne off, 3)) (ht : 0 ≤ (pc : Int) + off) (h1 : acmpOK v) (h2 : acmpOK w) (kt : ¬ v = w → V M N1 (tg pc off) ls st N σ Q) (kf : v = w → V M N1 (pc + 3) ls st N σ Q) : V M N1 pc ls (w :: v :: st) N σ Q := by
  refine V_br (P1 := ¬ v = w) (P2 := v = w) (fun {p l e R s m args below meth c g H locs cells slots lsA Zq} C k1 k2 => ?_) kt kf
  show W p l e R s m args below meth c H locs cells slots Zq (F0 m pc lsA (tr g w :: tr g v :: st.map (tr g)))
  rw [tr_O h1, tr_O h2]
  exact lv_acmp_ne C.1 C.2.1 hd (tg_ok ht) (fun q => k1 (fun z => q ((rvO_inj h1 h2).mpr z))) (fun q => k2 ((rvO_inj h1 h2).mp q))
theorem V_ifnull {v : Value} {off : Int} (hd : decode (miB M) pc = .ok (.ifnull off, 3)) (ht : 0 ≤ (pc : Int) + off) (h1 : acmpOK v) (kt : v = .null → V M N1 (tg pc off) ls st N σ Q) (kf : ¬ v = .null → V M N1 (pc + 3) ls st N σ Q) : V M N1 pc ls (v :: st) N σ Q := by
  refine V_br (P1 := v = .null) (P2 := ¬ v = .null) (fun C k1 k2 => ?_) kt kf
  cases v with
  | ref x => exact lv_ifnull C.1 C.2.1 hd (k2 (fun z => by cases z))
  | null => exact lv_ifnullN C.1 C.2.1 hd (tg_ok ht) (k1 rfl)
  | _ => exact h1.elim
theorem V_ifnonnull {v : Value} {off : Int} (hd : decode (miB M) pc = .ok (.ifnonnull off, 3)) (ht : 0 ≤ (pc : Int) + off) (h1 : acmpOK v) (kt : ¬ v = .null → V M N1 (tg pc off) ls st N σ Q) (kf : v = .null → V M N1 (pc + 3) ls st N σ Q) : V M N1 pc ls (v :: st) N σ Q := by
  refine V_br (P1 := ¬ v = .null) (P2 := v = .null) (fun C k1 k2 => ?_) kt kf
  cases v with
  | ref x => exact lv_ifnonnull C.1 C.2.1 hd (tg_ok ht) (k1 (fun z => by cases z))
  | null => exact lv_ifnonnullN C.1 C.2.1 hd (k2 rfl)
  | _ => exact h1.elim
theorem V_table {dflt lo hi x : Int} {offs : Array Int} {len : Nat} (hd : decode (miB M) pc = .ok (.tableswitch dflt lo hi offs, len)) (h0 : 0 ≤ (pc : Int) + dflt) (h1 : (offs.toList.all (fun o => decide (0 ≤ (pc : Int) + o))) = true) (h2 : hi - lo + 1 = (offs.size : Int)) (hx : -2147483648 ≤ x ∧ x < 2147483648)
    (k1 : (x < lo ∨ hi < x) → V M N1 (tg pc dflt) ls st N σ Q) (k2 : ∀ j : Nat, ∀ o : Int, x = lo + (j : Int) → offs[j]? = some o → V M N1 (tg pc o) ls st N σ Q) : V M N1 pc ls (zI x :: st) N σ Q := by
  by_cases hq : x < lo ∨ hi < x
  · exact V_lift (fun C _ _ _ _ k => lv_tableOut C.1 C.2.1 hd (by rw [zi_to hx]; exact hq) (tg_ok h0) k) (k1 hq)
  · have a1 : ¬ x < lo := fun z => hq (Or.inl z)
    have a2 : ¬ hi < x := fun z => hq (Or.inr z)
    have hj : (x - lo).toNat < offs.size := by omega
    have ho : offs[(x - lo).toNat]? = some (offs[(x - lo).toNat]'hj) := Array.getElem?_eq_getElem hj
    refine V_lift (fun C _ _ _ _ k => lv_tableIn C.1 C.2.1 hd (by rw [zi_to hx]; exact a1) (by rw [zi_to hx]; exact a2) (by rw [zi_to hx]; exact ho) (tg_ok ?_) k) (k2 _ _ (by omega) ho)
    exact of_decide_eq_true (List.all_eq_true.mp h1 _ (by rw [Array.mem_toList_iff]; exact Array.getElem_mem hj))
theorem V_lookup {dflt x : Int} {ps : Array (Int × Int)} {len : Nat} {off : Int} (hd : decode (miB M) pc = .ok (.lookupswitch dflt ps, len)) (hp : (ps.toList.zip (ps.toList.drop 1)).all (fun (a, next) => a.1 < next.1) = true) (hx : -2147483648 ≤ x ∧ x < 2147483648) (ho : Op.lookupswitch.offset ps.toList dflt x = off) (ht : 0 ≤ (pc : Int) + off) (k : V M N1 (tg pc off) ls st N σ Q) : V M N1 pc ls (zI x :: st) N σ Q := V_lift (fun C _ _ _ _ k => lv_lookup C.1 C.2.1 hd hp (by rw [zi_to hx]; exact ho) (tg_ok ht) k) k
theorem V_ldc {i : Nat} {v : Int32} {e : Int} (hc : cnIR (miC M) i = some v) (he : Int32.ofInt e = v) (hd : decode (miB M) pc = .ok (.ldc i, 2)) (k : V M N1 (pc + 2) ls (zI e :: st) N σ Q) : V M N1 pc ls st N σ Q := V_lift (fun C _ _ _ _ k => lv_ldc C.1 C.2.1 C.2.2.2.1 (C.2.2.2.2.1 _ (cnIOK hc)) hd (by rw [← he]; exact k)) k
theorem V_ldc2 {i : Nat} {v : Int64} (hc : cnLR (miC M) i = some v) (hd : decode (miB M) pc = .ok (.ldc2_w i, 3)) (k : V M N1 (pc + 3) ls (.long v :: st) N σ Q) : V M N1 pc ls st N σ Q := V_lift (fun C _ _ _ _ k => lv_ldc2 C.1 C.2.1 C.2.2.2.1 (C.2.2.2.2.1 _ (cnLOK hc)) hd k) k
theorem V_ldcS {i j : Nat} (hj : j < 14) (hi : liI j = i) (hM : miC M = 2) (hd : decode (miB M) pc = .ok (.ldc i, 2)) (k : V M N1 (pc + 2) ls (.retAddr (4 + j) :: st) N σ Q) : V M N1 pc ls st N σ Q := by
  refine V_lift (fun C _ _ _ _ k => ?_) k
  have hown := C.2.2.2.1
  rw [hM] at hown
  have hR := C.2.2.2.2.2.2.2.2.1.2.2.2.2.2.2.2.2.1 j hj
  rw [hi] at hR
  exact va_ldcS C.1 C.2.1 hown hR hd k
theorem V_objInit {i b : Nat} (ho : othR (miC M) i = some 0) (hlv : 1 ≤ miV M) (hc : (st.map fun v => v.category).sum ≤ 8) (hd : decode (miB M) pc = .ok (.invokespecial i, 3)) (k : V M N1 (pc + 3) ls st N σ Q) : V M N1 pc ls (.ref b :: st) N σ Q := by
  refine V_lift (fun {p l e R s m args below meth c g H locs cells slots lsA Zq} C hs _ _ _ k => ?_) k
  have h1 := C.2.2.2.2.2.2.1
  have h2 := C.2.2.2.2.2.2.2.1
  exact W.objInit C.1 C.2.1 C.2.2.2.1 (C.2.2.2.2.1 _ (othOK ho)) (C.2.2.2.2.1 _ uoO) (C.2.2.2.2.1 _ uoC) rfl hs.symm rfl hd (by omega) (by rw [tr_sum]; show 2 * 0 + _ + 12 ≤ _; omega) k
theorem V_min {i : Nat} {x y : Int} (ho : othR (miC M) i = some 2) (hlv : 1 ≤ miV M) (hc : (st.map fun v => v.category).sum ≤ 8) (hd : decode (miB M) pc = .ok (.invokestatic i, 3)) (hx : -2147483648 ≤ x ∧ x < 2147483648) (hy : -2147483648 ≤ y ∧ y < 2147483648) (k : V M N1 (pc + 3) ls (zI (if y < x then y else x) :: st) N σ Q) : V M N1 pc ls (zI y :: zI x :: st) N σ Q := by
  refine V_lift (fun {p l e R s m args below meth c g H locs cells slots lsA Zq} C hs hc1 hs1 _ k => ?_) k
  have h1 := C.2.2.2.2.2.2.1
  have h2 := C.2.2.2.2.2.2.2.1
  exact va_mmin C.1 C.2.1 hs C.2.2.2.1 (C.2.2.2.2.1 _ (othOK ho)) (C.2.2.2.2.1 _ umminS) (C.2.2.2.2.1 _ umI) (C.2.2.2.2.1 _ umminC) (by omega) (by rw [tr_sum]; omega) hc1 hs1 hd (by rw [show (if Int32.ofInt y < Int32.ofInt x then Int32.ofInt y else Int32.ofInt x) = Int32.ofInt (if y < x then y else x) by simp only [zi_lt hy hx]; split <;> rfl]; exact k)
theorem V_max {i : Nat} {x y : Int} (ho : othR (miC M) i = some 3) (hlv : 1 ≤ miV M) (hc : (st.map fun v => v.category).sum ≤ 8) (hd : decode (miB M) pc = .ok (.invokestatic i, 3)) (hx : -2147483648 ≤ x ∧ x < 2147483648) (hy : -2147483648 ≤ y ∧ y < 2147483648) (k : V M N1 (pc + 3) ls (zI (if x < y then y else x) :: st) N σ Q) : V M N1 pc ls (zI y :: zI x :: st) N σ Q := by
  refine V_lift (fun {p l e R s m args below meth c g H locs cells slots lsA Zq} C hs hc1 hs1 _ k => ?_) k
  have h1 := C.2.2.2.2.2.2.1
  have h2 := C.2.2.2.2.2.2.2.1
  exact va_mmax C.1 C.2.1 hs C.2.2.2.1 (C.2.2.2.2.1 _ (othOK ho)) (C.2.2.2.2.1 _ ummaxS) (C.2.2.2.2.1 _ umI) (C.2.2.2.2.1 _ ummaxC) (by omega) (by rw [tr_sum]; omega) hc1 hs1 hd (by rw [show (if Int32.ofInt x < Int32.ofInt y then Int32.ofInt y else Int32.ofInt x) = Int32.ofInt (if x < y then y else x) by simp only [zi_lt hx hy]; split <;> rfl]; exact k)
end ROWS
end
section
/-! ROWS over the heap -/
def up2 {α : Type} (f : Nat → Int → α) (i : Nat) (k : Int) (v : α) : Nat → Int → α := fun a b => if a = i ∧ b = k then v else f a b
def up1 {α : Type} (f : Int → α) (k : Int) (v : α) : Int → α := fun b => if b = k then v else f b
def setI (σ : Sto) (i : Nat) (k : Int) (x : Int) : Sto := (up2 σ.1 i k x, σ.2)
def setR (σ : Sto) (i : Nat) (k : Int) (r : Option Nat) : Sto := (σ.1, up2 σ.2.1 i k r, σ.2.2)
def setA (σ : Sto) (i : Nat) (f : Int → Int) : Sto := (fun a => if a = i then f else σ.1 a, σ.2)
/-- a cell made new -/
def clr (σ : Sto) (i : Nat) : Sto := (fun a => if a = i then fun _ => 0 else σ.1 a, fun a => if a = i then fun _ => none else σ.2.1 a, σ.2.2)
theorem cel_congr {g : Gam} {σ σ' : Sto} {j : Nat} (h1 : σ'.1 j = σ.1 j) (h2 : σ'.2.1 j = σ.2.1 j) : cel g σ' j = cel g σ j := by
  unfold cel gv
  rw [h1, h2]
theorem up2_ne {α : Type} {f : Nat → Int → α} {i j : Nat} {k : Int} {v : α} (h : j ≠ i) : up2 f i k v j = f j := by
  funext b
  unfold up2
  rw [if_neg (fun z => h z.1)]
theorem up2_at {α : Type} {f : Nat → Int → α} {i : Nat} {k : Int} {v : α} : up2 f i k v i = up1 (f i) k v := by
  funext b
  unfold up2 up1
  by_cases hb : b = k
  · rw [if_pos ⟨rfl, hb⟩, if_pos hb]
  · rw [if_neg (fun z => hb z.2), if_neg hb]
theorem up1_at {α : Type} {f : Int → α} {k : Int} {v : α} : up1 f k v k = v := if_pos rfl
theorem up1_ne {α : Type} {f : Int → α} {k j : Int} {v : α} (h : j ≠ k) : up1 f k v j = f j := if_neg h
theorem map_range_set {n k : Nat} {f g : Nat → Value} {v : Value} (hk : g k = v) (ho : ∀ j, j ≠ k → g j = f j) : ((List.range n).map f).set k v = (List.range n).map g := by
  apply List.ext_getElem?
  intro j
  by_cases hj : k = j
  · subst hj
    rcases Nat.lt_or_ge k n with h | h
    · rw [List.getElem?_set_self (by simpa using h)]
      simp [h, hk]
    · rw [List.getElem?_eq_none (by simpa using h), List.getElem?_eq_none (by simpa using h)]
  · rw [List.getElem?_set_ne hj]
    rcases Nat.lt_or_ge j n with h | h
    · simp [h, ho j (Ne.symm hj)]
    · rw [List.getElem?_eq_none (by simpa using h), List.getElem?_eq_none (by simpa using h)]
theorem tyAt {g : Gam} {k : Nat} (hk : k = 1 ∨ k = 4) : ∃ t0 : Nat, (tyL (gC g))[t0]? = some (gC g (k + 2), .object (RXs k)) := by
  rcases hk with rfl | rfl
  · exact ⟨2, rfl⟩
  · exact ⟨3, rfl⟩
section HEAP
variable {M : MI} {N N1 pc : Nat} {ls : List (Nat × Value)} {st : List Value} {Q : Option Value → Sto → Prop} {σ : Sto} {i ix ci k n : Nat}
theorem V_getV (hf : fldR (miC M) ix = some (ci, k)) (hd : decode (miB M) pc = .ok (.getfield ix, 3)) (hi : i < N) (hs : sh i = (0, ci)) (kk : V M N1 (pc + 3) ls (gv σ i ci k :: st) N σ Q) : V M N1 pc ls (.ref i :: st) N σ Q := by
  intro p l e R s m args below meth c g N0 H locs lsA Zq C hW hS hN hl hret
  obtain ⟨h9, hk, hlk⟩ := fldOK hf
  exact va_get (D := gD g) (ci := ci) (v := tr g (gv σ i ci k)) (fs := (List.range (nFs ci)).map (fun k => tr g (gv σ i ci k))) (C := RXs ci) (T := TXs ci) (N := nFs ci) C.1 C.2.1 C.2.2.2.2.1 (layUW ci h9) C.2.2.2.1 C.2.2.2.2.2.2.2.2.1.1 hW.2 i (by rw [wl_at hi, cel_o hs]) (clAt ci h9) k hk (C.2.2.2.2.1 _ hlk) (fun _ h => h) (by simp [hk]) hd
    (kk p l e R s m args below meth c g N0 H locs lsA Zq C hW hS hN hl hret)
theorem V_get {q : Int} (hf : fldR (miC M) ix = some (ci, k)) (hd : decode (miB M) pc = .ok (.getfield ix, 3)) (ht : isRf (tyXs ci k) = false) (hq : (k : Int) = q) (hi : i < N) (hs : sh i = (0, ci)) (kk : V M N1 (pc + 3) ls (zI (σ.1 i q) :: st) N σ Q) : V M N1 pc ls (.ref i :: st) N σ Q := by
  subst hq
  refine V_getV hf hd hi hs ?_
  rw [show gv σ i ci k = zI (σ.1 i (k : Int)) by unfold gv; rw [ht]; rfl]
  exact kk
theorem V_getR {q : Int} {j : Nat} (hf : fldR (miC M) ix = some (ci, k)) (hd : decode (miB M) pc = .ok (.getfield ix, 3)) (ht : isRf (tyXs ci k) = true) (hq : (k : Int) = q) (hi : i < N) (hs : sh i = (0, ci)) (hr : σ.2.1 i q = some j) (kk : V M N1 (pc + 3) ls (.ref j :: st) N σ Q) : V M N1 pc ls (.ref i :: st) N σ Q := by
  subst hq
  refine V_getV hf hd hi hs ?_
  rw [show gv σ i ci k = .ref j by unfold gv; rw [ht, if_pos rfl, hr]; rfl]
  exact kk
/-- behind a write of one cell -/
theorem Wd_set {g : Gam} {σ σ' : Sto} {H1 : Heap} {e : va_E} (hc : σ'.2.2 = σ.2.2) (hg : (gr g).2 = σ.2.2) (hP : va_P (gD g) vwCl ((wl g N σ).set i (gz g + i, e)) H1) (he : cel g σ' i = e) (ho : ∀ j, j ≠ i → σ'.1 j = σ.1 j ∧ σ'.2.1 j = σ.2.1 j) : Wd g N σ' H1 := by
  refine ⟨by rw [hc]; exact hg, ?_⟩
  rw [wl_set he (fun j hj => cel_congr (ho j hj).1 (ho j hj).2)] at hP
  exact hP
theorem V_put {x q : Int} (hf : fldR (miC M) ix = some (ci, k)) (hd : decode (miB M) pc = .ok (.putfield ix, 3)) (ht : isRf (tyXs ci k) = false) (hq : (k : Int) = q) (hn : narrow (tyXs ci k) (zI x) = zI x) (hfit : fits (tyXs ci k) (zI x) = true) (hfin : (TXs ci k).2.2.2 = false) (hi : i < N) (hs : sh i = (0, ci))
    (kk : V M N1 (pc + 3) ls st N (setI σ i q x) Q) : V M N1 pc ls (zI x :: .ref i :: st) N σ Q := by
  subst hq
  intro p l e R s m args below meth c g N0 H locs lsA Zq C hW hS hN hl hret
  obtain ⟨h9, hk, hlk⟩ := fldOK hf
  refine va_put (D := gD g) (ci := ci) (v := zI x) (ty := tyXs ci k) (fs := (List.range (nFs ci)).map (fun k => tr g (gv σ i ci k))) (C := RXs ci) (T := TXs ci) (N := nFs ci) C.1 C.2.1 C.2.2.2.2.1 (layUW ci h9) (tyXs ci) (tyOk ci h9) (nmOk ci h9) C.2.2.2.1 C.2.2.2.2.2.2.2.2.1.1 hW.2 (wl_D g N σ) hS i (by rw [wl_at hi, cel_o hs]) (clAt ci h9) k hk (C.2.2.2.2.1 _ hlk) (fun _ h => h) hfin (tyOk ci h9 k hk) hn hfit (by simpa using hk) hd (fun H1 locs1 hP _ hS1 => ?_)
  refine kk p l e R s m args below meth c g N0 H1 locs1 lsA Zq C (Wd_set (σ := σ) rfl hW.1 hP ?_ (fun j hj => ⟨up2_ne hj, rfl⟩)) hS1 hN hl hret
  rw [cel_o hs, map_range_set (g := fun k' => tr g (gv (setI σ i (k : Int) x) i ci k'))]
  · unfold gv
    rw [ht]
    show zI (up2 σ.1 i (k : Int) x i (k : Int)) = _
    rw [up2_at, up1_at]
  · intro j hj
    unfold gv
    show tr g (if isRf (tyXs ci j) = true then rv (σ.2.1 i (j : Int)) else zI (up2 σ.1 i (k : Int) x i (j : Int))) = _
    rw [up2_at, up1_ne (by omega)]
/-- an int field; a boolean one -/
theorem zi_nI {x : Int} : narrow .int (zI x) = zI x ∧ fits .int (zI x) = true := ⟨rfl, rfl⟩
theorem zi_nZ {x : Int} (h : x = 0 ∨ x = 1) : narrow .boolean (zI x) = zI x ∧ fits .boolean (zI x) = true := by
  rcases h with rfl | rfl
  · exact ⟨by decide, by decide⟩
  · exact ⟨by decide, by decide⟩
theorem V_putF {j : Nat} {q : Int} (hf : fldR (miC M) ix = some (ci, k)) (hd : decode (miB M) pc = .ok (.putfield ix, 3)) (ht : isRf (tyXs ci k) = true) (hq : (k : Int) = q) (hfin : (TXs ci k).2.2.2 = true) (hini : (miN M).name = "<init>") (hdecl : (TXs ci k).1 = RXs (miC M)) (hi : i < N) (hs : sh i = (0, ci))
    (kk : V M N1 (pc + 3) ls st N (setR σ i q (some j)) Q) : V M N1 pc ls (.ref j :: .ref i :: st) N σ Q := by
  subst hq
  intro p l e R s m args below meth c g N0 H locs lsA Zq C hW hS hN hl hret
  obtain ⟨h9, hk, hlk⟩ := fldOK hf
  have hnf : narrow (tyXs ci k) (.ref (gz g + j)) = .ref (gz g + j) ∧ fits (tyXs ci k) (.ref (gz g + j)) = true := by
    cases hq : tyXs ci k <;> rw [hq] at ht <;> first | exact ⟨rfl, rfl⟩ | cases ht
  refine va_putF (D := gD g) (ci := ci) (v := .ref (gz g + j)) (ty := tyXs ci k) (fs := (List.range (nFs ci)).map (fun k => tr g (gv σ i ci k))) (C := RXs ci) (T := TXs ci) (N := nFs ci) C.1 C.2.1 C.2.2.2.2.1 (layUW ci h9) (tyXs ci) (tyOk ci h9) (nmOk ci h9) C.2.2.2.1 C.2.2.2.2.2.2.2.2.1.1 hW.2 (wl_D g N σ) hS i (by rw [wl_at hi, cel_o hs]) (clAt ci h9) k hk (C.2.2.2.2.1 _ hlk) (fun _ h => h) hfin (C.2.2.2.2.2.1 hini) hdecl (tyOk ci h9 k hk) hnf.1 hnf.2 (by simpa using hk) hd (fun H1 locs1 hP _ hS1 => ?_)
  refine kk p l e R s m args below meth c g N0 H1 locs1 lsA Zq C (Wd_set (σ := σ) rfl hW.1 hP ?_ (fun j hj => ⟨rfl, up2_ne hj⟩)) hS1 hN hl hret
  rw [cel_o hs, map_range_set (g := fun k' => tr g (gv (setR σ i (k : Int) (some j)) i ci k'))]
  · unfold gv
    rw [ht]
    show tr g (rv (up2 σ.2.1 i (k : Int) (some j) i (k : Int))) = _
    rw [up2_at, up1_at]
    rfl
  · intro j' hj
    unfold gv
    show tr g (if isRf (tyXs ci j') = true then rv (up2 σ.2.1 i (k : Int) (some j) i (j' : Int)) else zI (σ.1 i (j' : Int))) = _
    rw [up2_at, up1_ne (by omega)]
theorem zf_up {f : Nat → Int → Int} {i : Nat} {k x : Int} (h : 0 ≤ k ∧ k < 2147483648) : upd (zf (f i)) (Int32.ofInt k).toNatClampNeg (Int32.ofInt x) = zf (up2 f i k x i) := by
  funext b
  unfold upd zf
  rw [up2_at]
  unfold up1
  have e := zi_cl h
  by_cases hb : (b : Int) = k
  · rw [if_pos (by omega), if_pos hb]
  · rw [if_neg (by omega), if_neg hb]
theorem V_iald {j : Int} (hd : decode (miB M) pc = .ok (.iaload, 1)) (hi : i < N) (hs : sh i = (1, n)) (h0 : 0 ≤ j) (h1 : j < (n : Int)) (hn : n < 2147483648) (kk : V M N1 (pc + 1) ls (zI (σ.1 i j) :: st) N σ Q) : V M N1 pc ls (zI j :: .ref i :: st) N σ Q := by
  intro p l e R s m args below meth c g N0 H locs lsA Zq C hW hS hN hl hret
  refine va_iald (D := gD g) C.1 C.2.1 C.2.2.2.2.2.2.2.2.1.1 hW.2 i 0 (by rw [wl_at hi, cel_i hs]) rfl (zi_in h0 h1 hn) hd ?_
  rw [zf_cl (by omega)]
  exact kk p l e R s m args below meth c g N0 H locs lsA Zq C hW hS hN hl hret
theorem V_cald {j : Int} (hd : decode (miB M) pc = .ok (.caload, 1)) (hi : i < N) (hs : sh i = (2, n)) (h0 : 0 ≤ j) (h1 : j < (n : Int)) (hn : n < 2147483648) (kk : V M N1 (pc + 1) ls (zI (σ.1 i j) :: st) N σ Q) : V M N1 pc ls (zI j :: .ref i :: st) N σ Q := by
  intro p l e R s m args below meth c g N0 H locs lsA Zq C hW hS hN hl hret
  refine va_cald (D := gD g) C.1 C.2.1 C.2.2.2.2.2.2.2.2.1.1 hW.2 i 1 (by rw [wl_at hi, cel_c hs]) rfl (zi_in h0 h1 hn) hd ?_
  rw [zf_cl (by omega)]
  exact kk p l e R s m args below meth c g N0 H locs lsA Zq C hW hS hN hl hret
theorem V_aaldV {j : Int} (hd : decode (miB M) pc = .ok (.aaload, 1)) (hi : i < N) (hs : sh i = (k + 3, n)) (hk : k = 1 ∨ k = 4) (h0 : 0 ≤ j) (h1 : j < (n : Int)) (hn : n < 2147483648) (kk : V M N1 (pc + 1) ls (rv (σ.2.1 i j) :: st) N σ Q) : V M N1 pc ls (zI j :: .ref i :: st) N σ Q := by
  intro p l e R s m args below meth c g N0 H locs lsA Zq C hW hS hN hl hret
  obtain ⟨t0, ht⟩ := tyAt (g := g) hk
  refine va_aldq (D := gD g) C.1 C.2.1 C.2.2.2.2.2.2.2.2.1.1 hW.2 i t0 (by rw [wl_at hi, cel_q hs]) ht (zi_in h0 h1 hn) hd ?_
  have h := kk p l e R s m args below meth c g N0 H locs lsA Zq C hW hS hN hl hret
  rw [List.map_cons, tr_rv] at h
  rw [zi_cl (by omega)]
  exact h
theorem V_aald {j : Int} {r : Nat} (hd : decode (miB M) pc = .ok (.aaload, 1)) (hi : i < N) (hs : sh i = (k + 3, n)) (hk : k = 1 ∨ k = 4) (h0 : 0 ≤ j) (h1 : j < (n : Int)) (hn : n < 2147483648) (hr : σ.2.1 i j = some r) (kk : V M N1 (pc + 1) ls (.ref r :: st) N σ Q) : V M N1 pc ls (zI j :: .ref i :: st) N σ Q := by
  refine V_aaldV hd hi hs hk h0 h1 hn ?_
  rw [hr]
  exact kk
theorem V_iast {j x : Int} (hd : decode (miB M) pc = .ok (.iastore, 1)) (hi : i < N) (hs : sh i = (1, n)) (h0 : 0 ≤ j) (h1 : j < (n : Int)) (hn : n < 2147483648) (kk : V M N1 (pc + 1) ls st N (setI σ i j x) Q) : V M N1 pc ls (zI x :: zI j :: .ref i :: st) N σ Q := by
  intro p l e R s m args below meth c g N0 H locs lsA Zq C hW hS hN hl hret
  refine va_iast (D := gD g) C.1 C.2.1 C.2.2.2.2.2.2.2.2.1.1 hW.2 (wl_D g N σ) hS i 0 (by rw [wl_at hi, cel_i hs]) rfl (zi_in h0 h1 hn) hd (fun H1 locs1 hP _ hS1 => ?_)
  refine kk p l e R s m args below meth c g N0 H1 locs1 lsA Zq C (Wd_set (σ := σ) rfl hW.1 hP ?_ (fun j hj => ⟨up2_ne hj, rfl⟩)) hS1 hN hl hret
  rw [cel_i hs, zf_up (by omega)]
  rfl
theorem V_cast {j x : Int} (hd : decode (miB M) pc = .ok (.castore, 1)) (hi : i < N) (hs : sh i = (2, n)) (h0 : 0 ≤ j) (h1 : j < (n : Int)) (hn : n < 2147483648) (hx : 0 ≤ x ∧ x < 65536) (kk : V M N1 (pc + 1) ls st N (setI σ i j x) Q) : V M N1 pc ls (zI x :: zI j :: .ref i :: st) N σ Q := by
  intro p l e R s m args below meth c g N0 H locs lsA Zq C hW hS hN hl hret
  refine va_cast (D := gD g) C.1 C.2.1 C.2.2.2.2.2.2.2.2.1.1 hW.2 (wl_D g N σ) hS i 1 (by rw [wl_at hi, cel_c hs]) rfl (zi_in h0 h1 hn) hd (fun H1 locs1 hP _ hS1 => ?_)
  refine kk p l e R s m args below meth c g N0 H1 locs1 lsA Zq C (Wd_set (σ := σ) rfl hW.1 hP ?_ (fun j hj => ⟨up2_ne hj, rfl⟩)) hS1 hN hl hret
  rw [cel_c hs, zi_char hx, zf_up (by omega)]
  rfl
theorem V_aast {j : Int} {v : Nat} (hd : decode (miB M) pc = .ok (.aastore, 1)) (hi : i < N) (hs : sh i = (k + 3, n)) (hk : k = 1 ∨ k = 4) (hv : v < N) (hsv : sh v = (0, k)) (h0 : 0 ≤ j) (h1 : j < (n : Int)) (hn : n < 2147483648) (kk : V M N1 (pc + 1) ls st N (setR σ i j (some v)) Q) : V M N1 pc ls (.ref v :: zI j :: .ref i :: st) N σ Q := by
  intro p l e R s m args below meth c g N0 H locs lsA Zq C hW hS hN hl hret
  obtain ⟨t0, ht⟩ := tyAt (g := g) hk
  refine va_astq (D := gD g) (r := (RXs k, TXs k, nFs k)) (v := gz g + v) C.1 C.2.1 C.2.2.2.2.2.2.2.2.1.1 hW.2 (wl_D g N σ) hS i t0 v k (by rw [wl_at hi, cel_q hs]) ht (by rw [wl_at hv, cel_o hsv]) (clAt k (by omega)) (zi_in h0 h1 hn) hd (fun H1 locs1 hP _ hS1 => ?_)
  refine kk p l e R s m args below meth c g N0 H1 locs1 lsA Zq C (Wd_set (σ := σ) rfl hW.1 hP ?_ (fun j hj => ⟨rfl, up2_ne hj⟩)) hS1 hN hl hret
  rw [cel_q hs]
  congr 7
  funext b
  show Option.map _ (up2 σ.2.1 i j (some v) i (b : Int)) = va_up _ _ _ b
  rw [up2_at]
  unfold va_up up1
  have e := zi_cl (e := j) (by omega)
  by_cases hb : (b : Int) = j
  · rw [if_pos hb, if_pos (by omega)]; rfl
  · rw [if_neg hb, if_neg (by omega)]
theorem V_sti {j : Int} {q : Nat} (hd : decode (miB M) pc = .ok (.iaload, 1)) (hq : q < 3) (h0 : 0 ≤ j) (h1 : j < 6) (kk : V M N1 (pc + 1) ls (zI (stV q j.toNat).toInt :: st) N σ Q) : V M N1 pc ls (zI j :: .retAddr q :: st) N σ Q := by
  intro p l e R s m args below meth c g N0 H locs lsA Zq C hW hS hN hl hret
  refine va_ti C.1 C.2.1 (C.2.2.2.2.2.2.2.2.1.2.2.2.2.2.1 q hq).2 hS (zi_in h0 h1 (by decide)) rfl hd ?_
  have h := kk p l e R s m args below meth c g N0 H locs lsA Zq C hW hS hN hl hret
  have e1 := zi_cl (e := j) (by omega)
  rw [show (Int32.ofInt j).toNatClampNeg = j.toNat by omega]
  rw [show zI (stV q j.toNat).toInt = Value.int (stV q j.toNat) from congrArg Value.int (zi_of _)] at h
  exact h
theorem V_scr {j : Int} (hd : decode (miB M) pc = .ok (.iaload, 1)) (h0 : 0 ≤ j) (h1 : j < (σ.2.2.1 : Int)) (hn : σ.2.2.1 < 2147483648) (kk : V M N1 (pc + 1) ls (zI (σ.2.2.2 j.toNat).toInt :: st) N σ Q) : V M N1 pc ls (zI j :: .retAddr 3 :: st) N σ Q := by
  intro p l e R s m args below meth c g N0 H locs lsA Zq C hW hS hN hl hret
  obtain ⟨hX, hb⟩ := C.2.2.2.2.2.2.2.2.1.2.2.2.2.2.2.1
  rw [hW.1] at hX
  refine va_sld C.1 C.2.1 hX (by have := C.2.2.2.2.2.2.2.2.2; omega) (by omega) hS (zi_in h0 h1 hn) hd ?_
  have h := kk p l e R s m args below meth c g N0 H locs lsA Zq C hW hS hN hl hret
  have e1 := zi_cl (e := j) (by omega)
  rw [show (Int32.ofInt j).toNatClampNeg = j.toNat by omega]
  rw [show zI (σ.2.2.2 j.toNat).toInt = Value.int (σ.2.2.2 j.toNat) from congrArg Value.int (zi_of _)] at h
  exact h
theorem V_scl (hd : decode (miB M) pc = .ok (.arraylength, 1)) (kk : V M N1 (pc + 1) ls (zI (σ.2.2.1 : Int) :: st) N σ Q) : V M N1 pc ls (.retAddr 3 :: st) N σ Q := by
  intro p l e R s m args below meth c g N0 H locs lsA Zq C hW hS hN hl hret
  obtain ⟨hX, hb⟩ := C.2.2.2.2.2.2.2.2.1.2.2.2.2.2.2.1
  rw [hW.1] at hX
  exact va_slen C.1 C.2.1 hX (by have := C.2.2.2.2.2.2.2.2.2; omega) (by omega) hS hd (kk p l e R s m args below meth c g N0 H locs lsA Zq C hW hS hN hl hret)
theorem V_gets {q : Nat} (hd : decode (miB M) pc = .ok (.getstatic ix, 3)) (hM : miC M = 7) (hq : (q = 1 ∧ ix = 86) ∨ (q = 2 ∧ ix = 89)) (kk : V M N1 (pc + 3) ls (.retAddr q :: st) N σ Q) : V M N1 pc ls st N σ Q := by
  intro p l e R s m args below meth c g N0 H locs lsA Zq C hW hS hN hl hret
  have hown := C.2.2.2.1
  rw [hM] at hown
  rcases hq with ⟨rfl, rfl⟩ | ⟨rfl, rfl⟩
  · exact va_gets (C := RX7) (ref := RX7) C.1 C.2.1 (C.2.2.2.2.2.2.2.2.1.2.2.2.2.2.1 1 (by decide)).1 hS hown (C.2.2.2.2.1 _ uLeast) (fun _ h => h) hd (kk p l e R s m args below meth c g N0 H locs lsA Zq C hW hS hN hl hret)
  · exact va_gets (C := RX7) (ref := RX7) C.1 C.2.1 (C.2.2.2.2.2.2.2.2.1.2.2.2.2.2.1 2 (by decide)).1 hS hown (C.2.2.2.2.1 _ uGreat) (fun _ h => h) hd (kk p l e R s m args below meth c g N0 H locs lsA Zq C hW hS hN hl hret)
theorem V_getsN (hd : decode (miB M) pc = .ok (.getstatic 43, 3)) (hM : miC M = 4) (kk : V M N1 (pc + 3) ls (.retAddr 0 :: st) N σ Q) : V M N1 pc ls st N σ Q := by
  intro p l e R s m args below meth c g N0 H locs lsA Zq C hW hS hN hl hret
  have hown := C.2.2.2.1
  rw [hM] at hown
  exact va_getsN (C := RX7) (ref := RX7) C.1 C.2.1 (C.2.2.2.2.2.2.2.2.1.2.2.2.2.2.1 0 (by decide)).1 hS hown (va_Nw.use rfl C.2.2.2.2.2.2.2.2.1.2.2.1) (fun _ h => h) hd (kk p l e R s m args below meth c g N0 H locs lsA Zq C hW hS hN hl hret)
/-- what a copy of an array's row leaves -/
def cpy (f g : Int → Int) (sp dp n : Int) : Int → Int := fun k => if dp ≤ k ∧ k < dp + n then f (sp + (k - dp)) else g k
theorem zf_cpy {f g : Int → Int} {sp dp n : Int} (h1 : 0 ≤ sp ∧ sp < 2147483648) (h2 : 0 ≤ dp ∧ dp < 2147483648) (h3 : 0 ≤ n ∧ n < 2147483648) : va_cpy (zf f) (zf g) (Int32.ofInt sp).toNatClampNeg (Int32.ofInt dp).toNatClampNeg (Int32.ofInt n).toNatClampNeg = zf (cpy f g sp dp n) := by
  have a1 := zi_cl h1
  have a2 := zi_cl h2
  have a3 := zi_cl h3
  funext b
  unfold va_cpy zf cpy
  by_cases hb : dp ≤ (b : Int) ∧ (b : Int) < dp + n
  · rw [if_pos (by omega), if_pos hb]
    congr 2
    omega
  · rw [if_neg (by omega), if_neg hb]
theorem V_copy {sr ds n0 n1 : Nat} {sp dp len : Int} (ho : othR (miC M) ix = some 1) (hlv : 1 ≤ miV M) (hc : (st.map fun v => v.category).sum ≤ 8) (hd : decode (miB M) pc = .ok (.invokestatic ix, 3)) (hs : sr < N) (hss : sh sr = (1, n0)) (ht : ds < N) (hst : sh ds = (1, n1)) (h1 : 0 ≤ sp) (h2 : 0 ≤ dp) (h3 : 0 ≤ len) (h4 : sp + len ≤ n0) (h5 : dp + len ≤ n1) (hn0 : n0 < 2147483648) (hn1 : n1 < 2147483648)
    (kk : V M N1 (pc + 3) ls st N (setA σ ds (cpy (σ.1 sr) (σ.1 ds) sp dp len)) Q) : V M N1 pc ls (zI len :: zI dp :: .ref ds :: zI sp :: .ref sr :: st) N σ Q := by
  intro p l e R s m args below meth c g N0 H locs lsA Zq C hW hS hN hl hret
  have e1 := C.2.2.2.2.2.2.1
  have e2 := C.2.2.2.2.2.2.2.1
  have a1 := zi_cl (e := sp) (by omega)
  have a2 := zi_cl (e := dp) (by omega)
  have a3 := zi_cl (e := len) (by omega)
  have g1 : ∀ x : Int, 0 ≤ x → x < 2147483648 → ¬ Int32.ofInt x < 0 := fun x q1 q2 z => by
    have := (zi_lt (x := x) (y := 0) (by omega) (by decide)).mp z
    omega
  refine va_copyi (D := gD g) (ty := .int) C.1 C.2.1 (by rw [C.2.2.1, hl.1]) C.2.2.2.1 (C.2.2.2.2.1 _ (othOK ho)) (C.2.2.2.2.1 _ uaN) (C.2.2.2.2.1 _ uaS) (C.2.2.2.2.1 _ uaI) C.2.2.2.2.2.2.2.2.1.1 hW.2 (wl_D g N σ) hS sr ds 0 0 (by rw [wl_at hs, cel_i hss]) (by rw [wl_at ht, cel_i hst]) rfl rfl rfl (g1 _ h1 (by omega)) (g1 _ h2 (by omega)) (g1 _ h3 (by omega)) (by omega) (by omega) (fun _ _ => rfl) (by omega) (by rw [tr_sum, show nativeFrameWords "java/lang/System" "arraycopy" 5 = 7 by decide +kernel]; omega) hd (fun H1 locs1 hP _ hS1 => ?_)
  refine kk p l e R s m args below meth c g N0 H1 locs1 lsA Zq C (Wd_set (σ := σ) rfl hW.1 hP ?_ (fun j hj => ⟨if_neg hj, rfl⟩)) hS1 hN hl hret
  rw [cel_i hst, zf_cpy (by omega) (by omega) (by omega)]
  show Sum.inl (gC g 0, n1, Sum.inl (zf (if ds = ds then cpy (σ.1 sr) (σ.1 ds) sp dp len else σ.1 ds))) = _
  rw [if_pos rfl]
end HEAP
end
section
/-! CALLS by arity; locals; the model's state -/
abbrev vpu (v : Option Value) (r : List Value) : List Value := match v with | some x => x :: r | none => r
theorem vpu_eq (v : Option Value) (r : List Value) : v.toList ++ r = vpu v r := by cases v <;> rfl
def lsub (ls : List (Nat × Value)) : List (Nat × Value) → Prop
  | [] => True
  | q :: r => lk q.1 ls = some q.2 ∧ lsub ls r
theorem lsub_in {ls : List (Nat × Value)} : ∀ {l : List (Nat × Value)}, lsub ls l → ∀ q ∈ l, lk q.1 ls = some q.2
  | [], _, q, h => absurd h List.not_mem_nil
  | a :: r, h, q, hq => by
    rcases List.mem_cons.mp hq with e | e
    · rw [e]; exact h.1
    · exact lsub_in h.2 q e
section CALLS8
variable {M M' : MI} {N N1 pc : Nat} {ls : List (Nat × Value)} {st rest : List Value} {Q : Option Value → Sto → Prop} {σ : Sto} {i kd n cl lv b : Nat}
theorem V_ls (ls' : List (Nat × Value)) (h : lsub ls ls') (k : V M N1 pc ls' st N σ Q) : V M N1 pc ls st N σ Q := by
  intro p l e R s m args below meth c g N0 H locs lsA Zq C hW hS hN hl hret
  refine k p l e R s m args below meth c g N0 H locs lsA Zq C hW hS hN ⟨hl.1, hl.2.1, fun q hq => ?_⟩ hret
  obtain ⟨x, hx, rfl⟩ := List.mem_map.mp hq
  exact lk_at hl (lsub_in h x hx)
theorem V_mono {Q' : Option Value → Sto → Prop} (h : V M N1 pc ls st N σ Q') (k : ∀ v σ', Q' v σ' → Q v σ') : V M N1 pc ls st N σ Q := by
  intro p l e R s m args below meth c g N0 H locs lsA Zq C hW hS hN hl hret
  exact h p l e R s m args below meth c g N0 H locs lsA Zq C hW hS hN hl (fun v σ' H' locs' lsA' pc' q => hret v σ' H' locs' lsA' pc' (k v σ' q))
theorem V_in (h : N ≤ N1 → V M N1 pc ls st N σ Q) : V M N1 pc ls st N σ Q := by
  intro p l e R s m args below meth c g N0 H locs lsA Zq C hW hS hN hl hret
  exact h hN.2.1 p l e R s m args below meth c g N0 H locs lsA Zq C hW hS hN hl hret
theorem V_cI {N' : Nat} (hm : callOK (miC M) i 2 0 cl lv M') (hd : decode (miB M) pc = .ok (.invokespecial i, 3)) (hlv : lv < miV M) (hc : (rest.map fun v => v.category).sum ≤ 8) (hN' : N' ≤ N1)
    (hcon : Con M' N N' σ [.ref b] (fun v σ' => V M N1 (pc + 3) ls (vpu v rest) N' σ' Q)) : V M N1 pc ls (.ref b :: rest) N σ Q :=
  V_callI (As := []) hm hd hlv rfl hc hN' hcon (fun v σ' h => by rw [vpu_eq]; exact h)
theorem V_cIN {N' : Nat} (hm : callOK (miC M) i 4 0 cl lv M') (hd : decode (miB M) pc = .ok (.invokespecial i, 3)) (hlv : lv < miV M) (hc : (rest.map fun v => v.category).sum ≤ 8) (hN' : N' ≤ N1)
    (hcon : Con M' N N' σ [.ref b] (fun v σ' => V M N1 (pc + 3) ls (vpu v rest) N' σ' Q)) : V M N1 pc ls (.ref b :: rest) N σ Q :=
  V_callIN (As := []) hm hd hlv rfl hc hN' hcon (fun v σ' h => by rw [vpu_eq]; exact h)
theorem V_cV0 (hm : callOK (miC M) i 0 0 cl lv M') (hd : decode (miB M) pc = .ok (.invokevirtual i, 3)) (hlv : lv < miV M) (hc : (rest.map fun v => v.category).sum ≤ 8) (hb : b < N) (hs : sh b = (0, cl)) (hcl : cl < 9)
    (hcon : Con M' N N σ [.ref b] (fun v σ' => V M N1 (pc + 3) ls (vpu v rest) N σ' Q)) : V M N1 pc ls (.ref b :: rest) N σ Q :=
  V_in fun hN => V_callV (As := []) hm hd hlv rfl hc hb hs hcl hN hcon (fun v σ' h => by rw [vpu_eq]; exact h)
theorem V_cV1 {a1 : Value} (hm : callOK (miC M) i 0 1 cl lv M') (hd : decode (miB M) pc = .ok (.invokevirtual i, 3)) (hlv : lv < miV M) (hc : (rest.map fun v => v.category).sum ≤ 8) (hb : b < N) (hs : sh b = (0, cl)) (hcl : cl < 9)
    (hcon : Con M' N N σ [.ref b, a1] (fun v σ' => V M N1 (pc + 3) ls (vpu v rest) N σ' Q)) : V M N1 pc ls (a1 :: .ref b :: rest) N σ Q :=
  V_in fun hN => V_callV (As := [a1]) hm hd hlv rfl hc hb hs hcl hN hcon (fun v σ' h => by rw [vpu_eq]; exact h)
theorem V_cS1 {a1 : Value} (hm : callOK (miC M) i 1 1 cl lv M') (hd : decode (miB M) pc = .ok (.invokestatic i, 3)) (hlv : lv < miV M) (hc : (rest.map fun v => v.category).sum ≤ 8)
    (hcon : Con M' N N σ [a1] (fun v σ' => V M N1 (pc + 3) ls (vpu v rest) N σ' Q)) : V M N1 pc ls (a1 :: rest) N σ Q :=
  V_in fun hN => V_callS (As := [a1]) hm hd hlv rfl hc hN hcon (fun v σ' h => by rw [vpu_eq]; exact h)
theorem V_cN1 {a1 : Value} (hm : callOK (miC M) i 3 1 cl lv M') (hd : decode (miB M) pc = .ok (.invokestatic i, 3)) (hlv : lv < miV M) (hc : (rest.map fun v => v.category).sum ≤ 8)
    (hcon : Con M' N N σ [a1] (fun v σ' => V M N1 (pc + 3) ls (vpu v rest) N σ' Q)) : V M N1 pc ls (a1 :: rest) N σ Q :=
  V_in fun hN => V_callSN (As := [a1]) hm hd hlv rfl hc hN hcon (fun v σ' h => by rw [vpu_eq]; exact h)
theorem V_cV2 {a1 a2 : Value} (hm : callOK (miC M) i 0 2 cl lv M') (hd : decode (miB M) pc = .ok (.invokevirtual i, 3)) (hlv : lv < miV M) (hc : (rest.map fun v => v.category).sum ≤ 8) (hb : b < N) (hs : sh b = (0, cl)) (hcl : cl < 9)
    (hcon : Con M' N N σ [.ref b, a1, a2] (fun v σ' => V M N1 (pc + 3) ls (vpu v rest) N σ' Q)) : V M N1 pc ls (a2 :: a1 :: .ref b :: rest) N σ Q :=
  V_in fun hN => V_callV (As := [a1, a2]) hm hd hlv rfl hc hb hs hcl hN hcon (fun v σ' h => by rw [vpu_eq]; exact h)
theorem V_cS2 {a1 a2 : Value} (hm : callOK (miC M) i 1 2 cl lv M') (hd : decode (miB M) pc = .ok (.invokestatic i, 3)) (hlv : lv < miV M) (hc : (rest.map fun v => v.category).sum ≤ 8)
    (hcon : Con M' N N σ [a1, a2] (fun v σ' => V M N1 (pc + 3) ls (vpu v rest) N σ' Q)) : V M N1 pc ls (a2 :: a1 :: rest) N σ Q :=
  V_in fun hN => V_callS (As := [a1, a2]) hm hd hlv rfl hc hN hcon (fun v σ' h => by rw [vpu_eq]; exact h)
theorem V_cN2 {a1 a2 : Value} (hm : callOK (miC M) i 3 2 cl lv M') (hd : decode (miB M) pc = .ok (.invokestatic i, 3)) (hlv : lv < miV M) (hc : (rest.map fun v => v.category).sum ≤ 8)
    (hcon : Con M' N N σ [a1, a2] (fun v σ' => V M N1 (pc + 3) ls (vpu v rest) N σ' Q)) : V M N1 pc ls (a2 :: a1 :: rest) N σ Q :=
  V_in fun hN => V_callSN (As := [a1, a2]) hm hd hlv rfl hc hN hcon (fun v σ' h => by rw [vpu_eq]; exact h)
theorem V_cV3 {a1 a2 a3 : Value} (hm : callOK (miC M) i 0 3 cl lv M') (hd : decode (miB M) pc = .ok (.invokevirtual i, 3)) (hlv : lv < miV M) (hc : (rest.map fun v => v.category).sum ≤ 8) (hb : b < N) (hs : sh b = (0, cl)) (hcl : cl < 9)
    (hcon : Con M' N N σ [.ref b, a1, a2, a3] (fun v σ' => V M N1 (pc + 3) ls (vpu v rest) N σ' Q)) : V M N1 pc ls (a3 :: a2 :: a1 :: .ref b :: rest) N σ Q :=
  V_in fun hN => V_callV (As := [a1, a2, a3]) hm hd hlv rfl hc hb hs hcl hN hcon (fun v σ' h => by rw [vpu_eq]; exact h)
theorem V_cS3 {a1 a2 a3 : Value} (hm : callOK (miC M) i 1 3 cl lv M') (hd : decode (miB M) pc = .ok (.invokestatic i, 3)) (hlv : lv < miV M) (hc : (rest.map fun v => v.category).sum ≤ 8)
    (hcon : Con M' N N σ [a1, a2, a3] (fun v σ' => V M N1 (pc + 3) ls (vpu v rest) N σ' Q)) : V M N1 pc ls (a3 :: a2 :: a1 :: rest) N σ Q :=
  V_in fun hN => V_callS (As := [a1, a2, a3]) hm hd hlv rfl hc hN hcon (fun v σ' h => by rw [vpu_eq]; exact h)
theorem V_cN3 {a1 a2 a3 : Value} (hm : callOK (miC M) i 3 3 cl lv M') (hd : decode (miB M) pc = .ok (.invokestatic i, 3)) (hlv : lv < miV M) (hc : (rest.map fun v => v.category).sum ≤ 8)
    (hcon : Con M' N N σ [a1, a2, a3] (fun v σ' => V M N1 (pc + 3) ls (vpu v rest) N σ' Q)) : V M N1 pc ls (a3 :: a2 :: a1 :: rest) N σ Q :=
  V_in fun hN => V_callSN (As := [a1, a2, a3]) hm hd hlv rfl hc hN hcon (fun v σ' h => by rw [vpu_eq]; exact h)
theorem V_cV4 {a1 a2 a3 a4 : Value} (hm : callOK (miC M) i 0 4 cl lv M') (hd : decode (miB M) pc = .ok (.invokevirtual i, 3)) (hlv : lv < miV M) (hc : (rest.map fun v => v.category).sum ≤ 8) (hb : b < N) (hs : sh b = (0, cl)) (hcl : cl < 9)
    (hcon : Con M' N N σ [.ref b, a1, a2, a3, a4] (fun v σ' => V M N1 (pc + 3) ls (vpu v rest) N σ' Q)) : V M N1 pc ls (a4 :: a3 :: a2 :: a1 :: .ref b :: rest) N σ Q :=
  V_in fun hN => V_callV (As := [a1, a2, a3, a4]) hm hd hlv rfl hc hb hs hcl hN hcon (fun v σ' h => by rw [vpu_eq]; exact h)
theorem V_cS4 {a1 a2 a3 a4 : Value} (hm : callOK (miC M) i 1 4 cl lv M') (hd : decode (miB M) pc = .ok (.invokestatic i, 3)) (hlv : lv < miV M) (hc : (rest.map fun v => v.category).sum ≤ 8)
    (hcon : Con M' N N σ [a1, a2, a3, a4] (fun v σ' => V M N1 (pc + 3) ls (vpu v rest) N σ' Q)) : V M N1 pc ls (a4 :: a3 :: a2 :: a1 :: rest) N σ Q :=
  V_in fun hN => V_callS (As := [a1, a2, a3, a4]) hm hd hlv rfl hc hN hcon (fun v σ' h => by rw [vpu_eq]; exact h)
theorem V_cN4 {a1 a2 a3 a4 : Value} (hm : callOK (miC M) i 3 4 cl lv M') (hd : decode (miB M) pc = .ok (.invokestatic i, 3)) (hlv : lv < miV M) (hc : (rest.map fun v => v.category).sum ≤ 8)
    (hcon : Con M' N N σ [a1, a2, a3, a4] (fun v σ' => V M N1 (pc + 3) ls (vpu v rest) N σ' Q)) : V M N1 pc ls (a4 :: a3 :: a2 :: a1 :: rest) N σ Q :=
  V_in fun hN => V_callSN (As := [a1, a2, a3, a4]) hm hd hlv rfl hc hN hcon (fun v σ' h => by rw [vpu_eq]; exact h)
theorem V_cV5 {a1 a2 a3 a4 a5 : Value} (hm : callOK (miC M) i 0 5 cl lv M') (hd : decode (miB M) pc = .ok (.invokevirtual i, 3)) (hlv : lv < miV M) (hc : (rest.map fun v => v.category).sum ≤ 8) (hb : b < N) (hs : sh b = (0, cl)) (hcl : cl < 9)
    (hcon : Con M' N N σ [.ref b, a1, a2, a3, a4, a5] (fun v σ' => V M N1 (pc + 3) ls (vpu v rest) N σ' Q)) : V M N1 pc ls (a5 :: a4 :: a3 :: a2 :: a1 :: .ref b :: rest) N σ Q :=
  V_in fun hN => V_callV (As := [a1, a2, a3, a4, a5]) hm hd hlv rfl hc hb hs hcl hN hcon (fun v σ' h => by rw [vpu_eq]; exact h)
theorem V_cS5 {a1 a2 a3 a4 a5 : Value} (hm : callOK (miC M) i 1 5 cl lv M') (hd : decode (miB M) pc = .ok (.invokestatic i, 3)) (hlv : lv < miV M) (hc : (rest.map fun v => v.category).sum ≤ 8)
    (hcon : Con M' N N σ [a1, a2, a3, a4, a5] (fun v σ' => V M N1 (pc + 3) ls (vpu v rest) N σ' Q)) : V M N1 pc ls (a5 :: a4 :: a3 :: a2 :: a1 :: rest) N σ Q :=
  V_in fun hN => V_callS (As := [a1, a2, a3, a4, a5]) hm hd hlv rfl hc hN hcon (fun v σ' h => by rw [vpu_eq]; exact h)
theorem V_cN5 {a1 a2 a3 a4 a5 : Value} (hm : callOK (miC M) i 3 5 cl lv M') (hd : decode (miB M) pc = .ok (.invokestatic i, 3)) (hlv : lv < miV M) (hc : (rest.map fun v => v.category).sum ≤ 8)
    (hcon : Con M' N N σ [a1, a2, a3, a4, a5] (fun v σ' => V M N1 (pc + 3) ls (vpu v rest) N σ' Q)) : V M N1 pc ls (a5 :: a4 :: a3 :: a2 :: a1 :: rest) N σ Q :=
  V_in fun hN => V_callSN (As := [a1, a2, a3, a4, a5]) hm hd hlv rfl hc hN hcon (fun v σ' h => by rw [vpu_eq]; exact h)
end CALLS8
abbrev PT : Type := (Int → Int) × (Int → Int) × Int × Int
abbrev TT : Type := (Int → Int) × (Int → Int) × Int × Int × Int × Int × Int
def mref : Int → Option Nat := fun k => if k = 0 then some 145 else if k = 1 then some 146 else if k = 2 then some 147 else if k = 5 then some 148 else if k = 8 then some 149 else none
def mfld (P : PT) (T : TT) : Int → Int := fun k => if k = 3 then P.2.2.1 else if k = 4 then P.2.2.2 else if k = 6 then T.2.2.1 else if k = 7 then T.2.2.2.1 else if k = 9 then T.2.2.2.2.1 else if k = 10 then T.2.2.2.2.2.1 else if k = 11 then T.2.2.2.2.2.2 else 0
/-- the store with the model's cells: its row, (past, aside, saved, refused), (text, read, length, spot, faultAt, faultWhy, readMany) -/
def mst (σ : Sto) (now : Int → Int) (P : PT) (T : TT) : Sto :=
  (fun i => if i < 144 then σ.1 i else if i = 144 then mfld P T else if i = 145 then now else if i = 146 then P.1 else if i = 147 then P.2.1 else if i = 148 then T.1 else if i = 149 then T.2.1 else σ.1 i,
   fun i => if i = 144 then mref else σ.2.1 i, σ.2.2)
theorem setI_eq {σ σ' : Sto} {i : Nat} {k x : Int} (h2 : σ'.2 = σ.2) (h1 : σ'.1 i = up1 (σ.1 i) k x) (h0 : ∀ j, j ≠ i → σ'.1 j = σ.1 j) : setI σ i k x = σ' := by
  refine Prod.ext (funext fun j => ?_) h2.symm
  show up2 σ.1 i k x j = _
  by_cases hj : j = i
  · rw [hj, up2_at, h1]
  · rw [up2_ne hj, h0 j hj]
section MODEL
variable {M : MI} {N N1 pc : Nat} {ls : List (Nat × Value)} {st : List Value} {Q : Option Value → Sto → Prop} {σ : Sto} {ix : Nat} {now past aside text read : Int → Int} {P : PT} {T : TT} {sv rf len spot fat fwy many : Int}
theorem Vm_saved (hf : fldR (miC M) ix = some (8, 3)) (hd : decode (miB M) pc = .ok (.getfield ix, 3)) (kk : V M N1 (pc + 3) ls (zI sv :: st) 150 (mst σ now (past, aside, sv, rf) T) Q) : V M N1 pc ls (.ref 144 :: st) 150 (mst σ now (past, aside, sv, rf) T) Q :=
  V_get (q := 3) hf hd rfl rfl (by decide) rfl kk
theorem Vm_psaved {x : Int} (hf : fldR (miC M) ix = some (8, 3)) (hd : decode (miB M) pc = .ok (.putfield ix, 3)) (kk : V M N1 (pc + 3) ls st 150 (mst σ now (past, aside, x, rf) T) Q) : V M N1 pc ls (zI x :: .ref 144 :: st) 150 (mst σ now (past, aside, sv, rf) T) Q := by
  refine V_put (q := 3) hf hd rfl rfl rfl rfl rfl (by decide) rfl ?_
  rw [setI_eq (σ := (mst σ now (past, aside, sv, rf) T)) (σ' := (mst σ now (past, aside, x, rf) T)) rfl ?_ ?_]
  · exact kk
  · funext k
    show mfld (past, aside, x, rf) T k = up1 (mfld (past, aside, sv, rf) T) 3 x k
    unfold up1 mfld
    by_cases hk : k = 3
    · subst hk; rfl
    · simp [hk]
  · intro j hj
    show (if j < 144 then _ else if j = 144 then _ else _) = (if j < 144 then _ else if j = 144 then _ else _)
    rw [if_neg hj, if_neg hj]
theorem Vm_refused (hf : fldR (miC M) ix = some (8, 4)) (hd : decode (miB M) pc = .ok (.getfield ix, 3)) (kk : V M N1 (pc + 3) ls (zI rf :: st) 150 (mst σ now (past, aside, sv, rf) T) Q) : V M N1 pc ls (.ref 144 :: st) 150 (mst σ now (past, aside, sv, rf) T) Q :=
  V_get (q := 4) hf hd rfl rfl (by decide) rfl kk
theorem Vm_prefused {x : Int} (hf : fldR (miC M) ix = some (8, 4)) (hd : decode (miB M) pc = .ok (.putfield ix, 3)) (kk : V M N1 (pc + 3) ls st 150 (mst σ now (past, aside, sv, x) T) Q) : V M N1 pc ls (zI x :: .ref 144 :: st) 150 (mst σ now (past, aside, sv, rf) T) Q := by
  refine V_put (q := 4) hf hd rfl rfl rfl rfl rfl (by decide) rfl ?_
  rw [setI_eq (σ := (mst σ now (past, aside, sv, rf) T)) (σ' := (mst σ now (past, aside, sv, x) T)) rfl ?_ ?_]
  · exact kk
  · funext k
    show mfld (past, aside, sv, x) T k = up1 (mfld (past, aside, sv, rf) T) 4 x k
    unfold up1 mfld
    by_cases hk : k = 4
    · subst hk; rfl
    · simp [hk]
  · intro j hj
    show (if j < 144 then _ else if j = 144 then _ else _) = (if j < 144 then _ else if j = 144 then _ else _)
    rw [if_neg hj, if_neg hj]
theorem Vm_length (hf : fldR (miC M) ix = some (8, 6)) (hd : decode (miB M) pc = .ok (.getfield ix, 3)) (kk : V M N1 (pc + 3) ls (zI len :: st) 150 (mst σ now P (text, read, len, spot, fat, fwy, many)) Q) : V M N1 pc ls (.ref 144 :: st) 150 (mst σ now P (text, read, len, spot, fat, fwy, many)) Q :=
  V_get (q := 6) hf hd rfl rfl (by decide) rfl kk
theorem Vm_plength {x : Int} (hf : fldR (miC M) ix = some (8, 6)) (hd : decode (miB M) pc = .ok (.putfield ix, 3)) (kk : V M N1 (pc + 3) ls st 150 (mst σ now P (text, read, x, spot, fat, fwy, many)) Q) : V M N1 pc ls (zI x :: .ref 144 :: st) 150 (mst σ now P (text, read, len, spot, fat, fwy, many)) Q := by
  refine V_put (q := 6) hf hd rfl rfl rfl rfl rfl (by decide) rfl ?_
  rw [setI_eq (σ := (mst σ now P (text, read, len, spot, fat, fwy, many))) (σ' := (mst σ now P (text, read, x, spot, fat, fwy, many))) rfl ?_ ?_]
  · exact kk
  · funext k
    show mfld P (text, read, x, spot, fat, fwy, many) k = up1 (mfld P (text, read, len, spot, fat, fwy, many)) 6 x k
    unfold up1 mfld
    by_cases hk : k = 6
    · subst hk; rfl
    · simp [hk]
  · intro j hj
    show (if j < 144 then _ else if j = 144 then _ else _) = (if j < 144 then _ else if j = 144 then _ else _)
    rw [if_neg hj, if_neg hj]
theorem Vm_spot (hf : fldR (miC M) ix = some (8, 7)) (hd : decode (miB M) pc = .ok (.getfield ix, 3)) (kk : V M N1 (pc + 3) ls (zI spot :: st) 150 (mst σ now P (text, read, len, spot, fat, fwy, many)) Q) : V M N1 pc ls (.ref 144 :: st) 150 (mst σ now P (text, read, len, spot, fat, fwy, many)) Q :=
  V_get (q := 7) hf hd rfl rfl (by decide) rfl kk
theorem Vm_pspot {x : Int} (hf : fldR (miC M) ix = some (8, 7)) (hd : decode (miB M) pc = .ok (.putfield ix, 3)) (kk : V M N1 (pc + 3) ls st 150 (mst σ now P (text, read, len, x, fat, fwy, many)) Q) : V M N1 pc ls (zI x :: .ref 144 :: st) 150 (mst σ now P (text, read, len, spot, fat, fwy, many)) Q := by
  refine V_put (q := 7) hf hd rfl rfl rfl rfl rfl (by decide) rfl ?_
  rw [setI_eq (σ := (mst σ now P (text, read, len, spot, fat, fwy, many))) (σ' := (mst σ now P (text, read, len, x, fat, fwy, many))) rfl ?_ ?_]
  · exact kk
  · funext k
    show mfld P (text, read, len, x, fat, fwy, many) k = up1 (mfld P (text, read, len, spot, fat, fwy, many)) 7 x k
    unfold up1 mfld
    by_cases hk : k = 7
    · subst hk; rfl
    · simp [hk]
  · intro j hj
    show (if j < 144 then _ else if j = 144 then _ else _) = (if j < 144 then _ else if j = 144 then _ else _)
    rw [if_neg hj, if_neg hj]
theorem Vm_fat (hf : fldR (miC M) ix = some (8, 9)) (hd : decode (miB M) pc = .ok (.getfield ix, 3)) (kk : V M N1 (pc + 3) ls (zI fat :: st) 150 (mst σ now P (text, read, len, spot, fat, fwy, many)) Q) : V M N1 pc ls (.ref 144 :: st) 150 (mst σ now P (text, read, len, spot, fat, fwy, many)) Q :=
  V_get (q := 9) hf hd rfl rfl (by decide) rfl kk
theorem Vm_pfat {x : Int} (hf : fldR (miC M) ix = some (8, 9)) (hd : decode (miB M) pc = .ok (.putfield ix, 3)) (kk : V M N1 (pc + 3) ls st 150 (mst σ now P (text, read, len, spot, x, fwy, many)) Q) : V M N1 pc ls (zI x :: .ref 144 :: st) 150 (mst σ now P (text, read, len, spot, fat, fwy, many)) Q := by
  refine V_put (q := 9) hf hd rfl rfl rfl rfl rfl (by decide) rfl ?_
  rw [setI_eq (σ := (mst σ now P (text, read, len, spot, fat, fwy, many))) (σ' := (mst σ now P (text, read, len, spot, x, fwy, many))) rfl ?_ ?_]
  · exact kk
  · funext k
    show mfld P (text, read, len, spot, x, fwy, many) k = up1 (mfld P (text, read, len, spot, fat, fwy, many)) 9 x k
    unfold up1 mfld
    by_cases hk : k = 9
    · subst hk; rfl
    · simp [hk]
  · intro j hj
    show (if j < 144 then _ else if j = 144 then _ else _) = (if j < 144 then _ else if j = 144 then _ else _)
    rw [if_neg hj, if_neg hj]
theorem Vm_fwy (hf : fldR (miC M) ix = some (8, 10)) (hd : decode (miB M) pc = .ok (.getfield ix, 3)) (kk : V M N1 (pc + 3) ls (zI fwy :: st) 150 (mst σ now P (text, read, len, spot, fat, fwy, many)) Q) : V M N1 pc ls (.ref 144 :: st) 150 (mst σ now P (text, read, len, spot, fat, fwy, many)) Q :=
  V_get (q := 10) hf hd rfl rfl (by decide) rfl kk
theorem Vm_pfwy {x : Int} (hf : fldR (miC M) ix = some (8, 10)) (hd : decode (miB M) pc = .ok (.putfield ix, 3)) (kk : V M N1 (pc + 3) ls st 150 (mst σ now P (text, read, len, spot, fat, x, many)) Q) : V M N1 pc ls (zI x :: .ref 144 :: st) 150 (mst σ now P (text, read, len, spot, fat, fwy, many)) Q := by
  refine V_put (q := 10) hf hd rfl rfl rfl rfl rfl (by decide) rfl ?_
  rw [setI_eq (σ := (mst σ now P (text, read, len, spot, fat, fwy, many))) (σ' := (mst σ now P (text, read, len, spot, fat, x, many))) rfl ?_ ?_]
  · exact kk
  · funext k
    show mfld P (text, read, len, spot, fat, x, many) k = up1 (mfld P (text, read, len, spot, fat, fwy, many)) 10 x k
    unfold up1 mfld
    by_cases hk : k = 10
    · subst hk; rfl
    · simp [hk]
  · intro j hj
    show (if j < 144 then _ else if j = 144 then _ else _) = (if j < 144 then _ else if j = 144 then _ else _)
    rw [if_neg hj, if_neg hj]
theorem Vm_many (hf : fldR (miC M) ix = some (8, 11)) (hd : decode (miB M) pc = .ok (.getfield ix, 3)) (kk : V M N1 (pc + 3) ls (zI many :: st) 150 (mst σ now P (text, read, len, spot, fat, fwy, many)) Q) : V M N1 pc ls (.ref 144 :: st) 150 (mst σ now P (text, read, len, spot, fat, fwy, many)) Q :=
  V_get (q := 11) hf hd rfl rfl (by decide) rfl kk
theorem Vm_pmany {x : Int} (hf : fldR (miC M) ix = some (8, 11)) (hd : decode (miB M) pc = .ok (.putfield ix, 3)) (kk : V M N1 (pc + 3) ls st 150 (mst σ now P (text, read, len, spot, fat, fwy, x)) Q) : V M N1 pc ls (zI x :: .ref 144 :: st) 150 (mst σ now P (text, read, len, spot, fat, fwy, many)) Q := by
  refine V_put (q := 11) hf hd rfl rfl rfl rfl rfl (by decide) rfl ?_
  rw [setI_eq (σ := (mst σ now P (text, read, len, spot, fat, fwy, many))) (σ' := (mst σ now P (text, read, len, spot, fat, fwy, x))) rfl ?_ ?_]
  · exact kk
  · funext k
    show mfld P (text, read, len, spot, fat, fwy, x) k = up1 (mfld P (text, read, len, spot, fat, fwy, many)) 11 x k
    unfold up1 mfld
    by_cases hk : k = 11
    · subst hk; rfl
    · simp [hk]
  · intro j hj
    show (if j < 144 then _ else if j = 144 then _ else _) = (if j < 144 then _ else if j = 144 then _ else _)
    rw [if_neg hj, if_neg hj]
theorem Vm_now {j : Int} (hd : decode (miB M) pc = .ok (.iaload, 1)) (h : 0 ≤ j ∧ j < 185) (kk : V M N1 (pc + 1) ls (zI (now j) :: st) 150 (mst σ now P T) Q) : V M N1 pc ls (zI j :: .ref 145 :: st) 150 (mst σ now P T) Q :=
  V_iald (n := 185) hd (by decide) rfl h.1 h.2 (by decide) kk
theorem Vm_nowS {j x : Int} (hd : decode (miB M) pc = .ok (.iastore, 1)) (h : 0 ≤ j ∧ j < 185) (kk : V M N1 (pc + 1) ls st 150 (mst σ (up1 now j x) P T) Q) : V M N1 pc ls (zI x :: zI j :: .ref 145 :: st) 150 (mst σ now P T) Q := by
  refine V_iast (n := 185) hd (by decide) rfl h.1 h.2 (by decide) ?_
  rw [setI_eq (σ := (mst σ now P T)) (σ' := (mst σ (up1 now j x) P T)) rfl rfl ?_]
  · exact kk
  · intro i hi
    simp only [mst, if_neg hi]
    try rfl
theorem Vm_past {j : Int} (hd : decode (miB M) pc = .ok (.iaload, 1)) (h : 0 ≤ j ∧ j < 740) (kk : V M N1 (pc + 1) ls (zI (past j) :: st) 150 (mst σ now (past, aside, sv, rf) T) Q) : V M N1 pc ls (zI j :: .ref 146 :: st) 150 (mst σ now (past, aside, sv, rf) T) Q :=
  V_iald (n := 740) hd (by decide) rfl h.1 h.2 (by decide) kk
theorem Vm_pastS {j x : Int} (hd : decode (miB M) pc = .ok (.iastore, 1)) (h : 0 ≤ j ∧ j < 740) (kk : V M N1 (pc + 1) ls st 150 (mst σ now ((up1 past j x), aside, sv, rf) T) Q) : V M N1 pc ls (zI x :: zI j :: .ref 146 :: st) 150 (mst σ now (past, aside, sv, rf) T) Q := by
  refine V_iast (n := 740) hd (by decide) rfl h.1 h.2 (by decide) ?_
  rw [setI_eq (σ := (mst σ now (past, aside, sv, rf) T)) (σ' := (mst σ now ((up1 past j x), aside, sv, rf) T)) rfl rfl ?_]
  · exact kk
  · intro i hi
    simp only [mst, if_neg hi]
    try rfl
theorem Vm_aside {j : Int} (hd : decode (miB M) pc = .ok (.iaload, 1)) (h : 0 ≤ j ∧ j < 185) (kk : V M N1 (pc + 1) ls (zI (aside j) :: st) 150 (mst σ now (past, aside, sv, rf) T) Q) : V M N1 pc ls (zI j :: .ref 147 :: st) 150 (mst σ now (past, aside, sv, rf) T) Q :=
  V_iald (n := 185) hd (by decide) rfl h.1 h.2 (by decide) kk
theorem Vm_asideS {j x : Int} (hd : decode (miB M) pc = .ok (.iastore, 1)) (h : 0 ≤ j ∧ j < 185) (kk : V M N1 (pc + 1) ls st 150 (mst σ now (past, (up1 aside j x), sv, rf) T) Q) : V M N1 pc ls (zI x :: zI j :: .ref 147 :: st) 150 (mst σ now (past, aside, sv, rf) T) Q := by
  refine V_iast (n := 185) hd (by decide) rfl h.1 h.2 (by decide) ?_
  rw [setI_eq (σ := (mst σ now (past, aside, sv, rf) T)) (σ' := (mst σ now (past, (up1 aside j x), sv, rf) T)) rfl rfl ?_]
  · exact kk
  · intro i hi
    simp only [mst, if_neg hi]
    try rfl
theorem Vm_text {j : Int} (hd : decode (miB M) pc = .ok (.iaload, 1)) (h : 0 ≤ j ∧ j < 100) (kk : V M N1 (pc + 1) ls (zI (text j) :: st) 150 (mst σ now P (text, read, len, spot, fat, fwy, many)) Q) : V M N1 pc ls (zI j :: .ref 148 :: st) 150 (mst σ now P (text, read, len, spot, fat, fwy, many)) Q :=
  V_iald (n := 100) hd (by decide) rfl h.1 h.2 (by decide) kk
theorem Vm_textS {j x : Int} (hd : decode (miB M) pc = .ok (.iastore, 1)) (h : 0 ≤ j ∧ j < 100) (kk : V M N1 (pc + 1) ls st 150 (mst σ now P ((up1 text j x), read, len, spot, fat, fwy, many)) Q) : V M N1 pc ls (zI x :: zI j :: .ref 148 :: st) 150 (mst σ now P (text, read, len, spot, fat, fwy, many)) Q := by
  refine V_iast (n := 100) hd (by decide) rfl h.1 h.2 (by decide) ?_
  rw [setI_eq (σ := (mst σ now P (text, read, len, spot, fat, fwy, many))) (σ' := (mst σ now P ((up1 text j x), read, len, spot, fat, fwy, many))) rfl rfl ?_]
  · exact kk
  · intro i hi
    simp only [mst, if_neg hi]
    try rfl
theorem Vm_read {j : Int} (hd : decode (miB M) pc = .ok (.iaload, 1)) (h : 0 ≤ j ∧ j < 5) (kk : V M N1 (pc + 1) ls (zI (read j) :: st) 150 (mst σ now P (text, read, len, spot, fat, fwy, many)) Q) : V M N1 pc ls (zI j :: .ref 149 :: st) 150 (mst σ now P (text, read, len, spot, fat, fwy, many)) Q :=
  V_iald (n := 5) hd (by decide) rfl h.1 h.2 (by decide) kk
theorem Vm_readS {j x : Int} (hd : decode (miB M) pc = .ok (.iastore, 1)) (h : 0 ≤ j ∧ j < 5) (kk : V M N1 (pc + 1) ls st 150 (mst σ now P (text, (up1 read j x), len, spot, fat, fwy, many)) Q) : V M N1 pc ls (zI x :: zI j :: .ref 149 :: st) 150 (mst σ now P (text, read, len, spot, fat, fwy, many)) Q := by
  refine V_iast (n := 5) hd (by decide) rfl h.1 h.2 (by decide) ?_
  rw [setI_eq (σ := (mst σ now P (text, read, len, spot, fat, fwy, many))) (σ' := (mst σ now P (text, (up1 read j x), len, spot, fat, fwy, many))) rfl rfl ?_]
  · exact kk
  · intro i hi
    simp only [mst, if_neg hi]
    try rfl
end MODEL
end
section
/-! PURE WORDS of a row -/
abbrev RB (r : Int → Int) : Prop := ∀ k : Int, 0 ≤ k → k < 185 → (k < 16 ∨ 24 ≤ k) → -3000000 ≤ r k ∧ r k ≤ 3000000
def jf (r : Int → Int) (p w : Int) : Int := r (85 + 10 * p + w)
theorem Qv {Q : Option Value → Sto → Prop} {v v' : Int} {σ σ' : Sto} (k : Q (some (zI v)) σ) (hv : v = v') (hs : σ = σ') : Q (some (zI v')) σ' := by
  subst hv; subst hs; exact k
theorem Qn {Q : Option Value → Sto → Prop} {σ σ' : Sto} (k : Q none σ) (hs : σ = σ') : Q none σ' := by
  subst hs; exact k
theorem mnow {σ : Sto} {now now' : Int → Int} {P : PT} {T : TT} (h : now = now') : mst σ now P T = mst σ now' P T := by rw [h]
theorem cases16 {P : Int → Prop} (h : ∀ n : Nat, n < 16 → P (n : Int)) : ∀ x : Int, 0 ≤ x → x < 16 → P x := fun x h0 h1 => by
  obtain ⟨n, rfl⟩ := Int.eq_ofNat_of_zero_le h0
  exact h n (by omega)
theorem ba_1 : ∀ x : Int, 0 ≤ x → x < 16 → ba x 1 = x % 2 := cases16 (by decide +kernel)
theorem ba_2 : ∀ x : Int, 0 ≤ x → x < 16 → ba x 2 = x / 2 % 2 * 2 := cases16 (by decide +kernel)
theorem ba_4 : ∀ x : Int, 0 ≤ x → x < 16 → ba x 4 = x / 4 % 2 * 4 := cases16 (by decide +kernel)
theorem ba_8 : ∀ x : Int, 0 ≤ x → x < 16 → ba x 8 = x / 8 % 2 * 8 := cases16 (by decide +kernel)
/-- sheets of a set -/
def sof (pages how : Int) : Int := if how % 2 = 1 then (pages + 1) / 2 else pages
theorem sof_rg {pages how : Int} (h1 : 1 ≤ pages) (h2 : pages ≤ 200) : 1 ≤ sof pages how ∧ sof pages how ≤ 200 := by
  unfold sof
  split <;> omega
theorem fx_0_11 : fldR 0 11 = some (0, 0) := rfl
theorem fx_0_18 : fldR 0 18 = some (0, 1) := rfl
theorem fx_1_9 : fldR 1 9 = some (1, 1) := rfl
theorem fx_1_15 : fldR 1 15 = some (1, 2) := rfl
theorem fx_1_18 : fldR 1 18 = some (1, 3) := rfl
theorem fx_1_21 : fldR 1 21 = some (1, 4) := rfl
theorem fx_1_24 : fldR 1 24 = some (1, 5) := rfl
theorem fx_1_27 : fldR 1 27 = some (1, 6) := rfl
theorem fx_1_31 : fldR 1 31 = some (1, 7) := rfl
theorem fx_1_34 : fldR 1 34 = some (1, 8) := rfl
theorem fx_1_37 : fldR 1 37 = some (1, 9) := rfl
theorem fx_1_40 : fldR 1 40 = some (1, 10) := rfl
theorem fx_1_43 : fldR 1 43 = some (1, 11) := rfl
theorem fx_1_46 : fldR 1 46 = some (1, 12) := rfl
theorem fx_1_49 : fldR 1 49 = some (1, 13) := rfl
theorem fx_1_52 : fldR 1 52 = some (1, 14) := rfl
theorem fx_1_55 : fldR 1 55 = some (1, 0) := rfl
theorem fx_2_9 : fldR 2 9 = some (2, 0) := rfl
theorem fx_2_15 : fldR 2 15 = some (2, 1) := rfl
theorem fx_2_23 : fldR 2 23 = some (4, 3) := rfl
theorem fx_2_29 : fldR 2 29 = some (4, 1) := rfl
theorem fx_2_39 : fldR 2 39 = some (2, 2) := rfl
theorem fx_2_42 : fldR 2 42 = some (2, 3) := rfl
theorem fx_2_45 : fldR 2 45 = some (2, 5) := rfl
theorem fx_2_48 : fldR 2 48 = some (2, 4) := rfl
theorem fx_3_9 : fldR 3 9 = some (3, 0) := rfl
theorem fx_3_15 : fldR 3 15 = some (3, 1) := rfl
theorem fx_3_18 : fldR 3 18 = some (3, 2) := rfl
theorem fx_3_21 : fldR 3 21 = some (3, 3) := rfl
theorem fx_3_30 : fldR 3 30 = some (3, 4) := rfl
theorem fx_3_34 : fldR 3 34 = some (3, 5) := rfl
theorem fx_4_12 : fldR 4 12 = some (4, 0) := rfl
theorem fx_4_21 : fldR 4 21 = some (4, 1) := rfl
theorem fx_4_28 : fldR 4 28 = some (4, 2) := rfl
theorem fx_4_32 : fldR 4 32 = some (4, 3) := rfl
theorem fx_4_36 : fldR 4 36 = some (4, 4) := rfl
theorem fx_4_40 : fldR 4 40 = some (4, 6) := rfl
theorem fx_4_62 : fldR 4 62 = some (4, 5) := rfl
theorem fx_4_65 : fldR 4 65 = some (4, 7) := rfl
theorem fx_4_68 : fldR 4 68 = some (4, 8) := rfl
theorem fx_4_108 : fldR 4 108 = some (1, 8) := rfl
theorem fx_4_111 : fldR 4 111 = some (1, 3) := rfl
theorem fx_4_114 : fldR 4 114 = some (1, 4) := rfl
theorem fx_4_127 : fldR 4 127 = some (1, 0) := rfl
theorem fx_4_130 : fldR 4 130 = some (5, 3) := rfl
theorem fx_4_150 : fldR 4 150 = some (3, 5) := rfl
theorem fx_4_153 : fldR 4 153 = some (1, 13) := rfl
theorem fx_4_159 : fldR 4 159 = some (1, 14) := rfl
theorem fx_5_11 : fldR 5 11 = some (5, 0) := rfl
theorem fx_5_17 : fldR 5 17 = some (5, 3) := rfl
theorem fx_5_22 : fldR 5 22 = some (5, 1) := rfl
theorem fx_5_25 : fldR 5 25 = some (5, 2) := rfl
theorem fx_5_32 : fldR 5 32 = some (1, 0) := rfl
theorem fx_5_35 : fldR 5 35 = some (1, 12) := rfl
theorem fx_5_39 : fldR 5 39 = some (1, 11) := rfl
theorem fx_5_54 : fldR 5 54 = some (1, 10) := rfl
theorem fx_5_57 : fldR 5 57 = some (1, 13) := rfl
theorem fx_6_9 : fldR 6 9 = some (6, 0) := rfl
theorem fx_6_15 : fldR 6 15 = some (6, 1) := rfl
theorem fx_6_18 : fldR 6 18 = some (6, 2) := rfl
theorem fx_7_12 : fldR 7 12 = some (7, 0) := rfl
theorem fx_7_16 : fldR 7 16 = some (7, 1) := rfl
theorem fx_7_22 : fldR 7 22 = some (7, 2) := rfl
theorem fx_7_29 : fldR 7 29 = some (7, 3) := rfl
theorem fx_7_36 : fldR 7 36 = some (7, 4) := rfl
theorem fx_7_48 : fldR 7 48 = some (4, 0) := rfl
theorem fx_7_52 : fldR 7 52 = some (6, 2) := rfl
theorem fx_7_69 : fldR 7 69 = some (6, 0) := rfl
theorem fx_7_72 : fldR 7 72 = some (6, 1) := rfl
theorem fx_7_79 : fldR 7 79 = some (4, 4) := rfl
theorem fx_7_83 : fldR 7 83 = some (4, 5) := rfl
theorem fx_7_92 : fldR 7 92 = some (4, 3) := rfl
theorem fx_7_107 : fldR 7 107 = some (7, 5) := rfl
theorem fx_7_110 : fldR 7 110 = some (4, 1) := rfl
theorem fx_7_128 : fldR 7 128 = some (1, 12) := rfl
theorem fx_7_136 : fldR 7 136 = some (1, 13) := rfl
theorem fx_7_142 : fldR 7 142 = some (4, 2) := rfl
theorem fx_7_152 : fldR 7 152 = some (1, 11) := rfl
theorem fx_7_161 : fldR 7 161 = some (1, 0) := rfl
theorem fx_7_164 : fldR 7 164 = some (3, 0) := rfl
theorem fx_7_178 : fldR 7 178 = some (5, 1) := rfl
theorem fx_7_184 : fldR 7 184 = some (5, 2) := rfl
theorem fx_7_187 : fldR 7 187 = some (4, 8) := rfl
theorem fx_7_190 : fldR 7 190 = some (4, 6) := rfl
theorem fx_7_193 : fldR 7 193 = some (4, 7) := rfl
theorem fx_7_196 : fldR 7 196 = some (3, 4) := rfl
theorem fx_7_199 : fldR 7 199 = some (0, 1) := rfl
theorem fx_7_202 : fldR 7 202 = some (2, 1) := rfl
theorem fx_7_208 : fldR 7 208 = some (3, 1) := rfl
theorem fx_7_211 : fldR 7 211 = some (3, 2) := rfl
theorem fx_7_214 : fldR 7 214 = some (3, 3) := rfl
theorem fx_7_234 : fldR 7 234 = some (2, 5) := rfl
theorem fx_7_237 : fldR 7 237 = some (2, 4) := rfl
theorem fx_7_240 : fldR 7 240 = some (2, 3) := rfl
theorem fx_7_243 : fldR 7 243 = some (2, 2) := rfl
theorem fx_8_7 : fldR 8 7 = some (8, 0) := rfl
theorem fx_8_13 : fldR 8 13 = some (8, 1) := rfl
theorem fx_8_16 : fldR 8 16 = some (8, 2) := rfl
theorem fx_8_19 : fldR 8 19 = some (8, 4) := rfl
theorem fx_8_23 : fldR 8 23 = some (8, 5) := rfl
theorem fx_8_26 : fldR 8 26 = some (8, 8) := rfl
theorem fx_8_29 : fldR 8 29 = some (8, 3) := rfl
theorem fx_8_166 : fldR 8 166 = some (8, 6) := rfl
theorem fx_8_169 : fldR 8 169 = some (8, 7) := rfl
theorem fx_8_217 : fldR 8 217 = some (8, 11) := rfl
theorem fx_8_223 : fldR 8 223 = some (8, 9) := rfl
theorem fx_8_226 : fldR 8 226 = some (8, 10) := rfl
theorem c_X8_in {σ : Sto} {Q : Option Value → Sto → Prop} {v lo hi : Int} (r_v : -2147483648 ≤ v ∧ v < 2147483648) (r_lo : -2147483648 ≤ lo ∧ lo < 2147483648) (r_hi : -2147483648 ≤ hi ∧ hi < 2147483648) (k1 : lo ≤ v ∧ v ≤ hi → Q (some (zI 1)) σ) (k0 : ¬ (lo ≤ v ∧ v ≤ hi) → Q (some (zI 0)) σ) : Con M_X8_in 150 150 σ [zI v, zI lo, zI hi] Q := by
  refine V_entry ok_X8_in (Nat.le_refl _) (Nat.le_of_ble_eq_true rfl) (V_ls [(0, zI v), (1, zI lo), (2, zI hi)] ⟨rfl, rfl, rfl, trivial⟩ ?_)
  obtain ⟨d0, d1, d2, d5, d6, d7, d10, d11, d14, d15, -⟩ := D_X8_in
  refine V_iload_n (pc := 0) d0 rfl ?_
  refine V_iload_n (pc := 1) d1 rfl ?_
  refine V_icmp_lt (pc := 2) d2 (by decide) (by omega) (by omega) (fun h2 => ?_) (fun h2 => ?_)
  · refine V_iconst (pc := 14) d14 ?_
    refine V_ret (pc := 15) (v := some (zI _)) ⟨d15, _, rfl, by decide⟩ ?_
    first | exact k1 (by omega) | exact k0 (by omega)
  · refine V_iload_n (pc := 5) d5 rfl ?_
    refine V_iload_n (pc := 6) d6 rfl ?_
    refine V_icmp_gt (pc := 7) d7 (by decide) (by omega) (by omega) (fun h7 => ?_) (fun h7 => ?_)
    · refine V_iconst (pc := 14) d14 ?_
      refine V_ret (pc := 15) (v := some (zI _)) ⟨d15, _, rfl, by decide⟩ ?_
      first | exact k1 (by omega) | exact k0 (by omega)
    · refine V_iconst (pc := 10) d10 ?_
      refine V_goto (pc := 11) d11 (by decide) ?_
      refine V_ret (pc := 15) (v := some (zI _)) ⟨d15, _, rfl, by decide⟩ ?_
      first | exact k1 (by omega) | exact k0 (by omega)
theorem c_X8_isPaper {σ : Sto} {Q : Option Value → Sto → Prop} {s t : Int} (r_s : -2147483648 ≤ s ∧ s < 2147483648) (r_t : -2147483648 ≤ t ∧ t < 2147483648) (k1 : (0 ≤ s ∧ s ≤ 3) ∧ 0 ≤ t ∧ t ≤ 3 → Q (some (zI 1)) σ) (k0 : ¬ ((0 ≤ s ∧ s ≤ 3) ∧ 0 ≤ t ∧ t ≤ 3) → Q (some (zI 0)) σ) : Con M_X8_isPaper 150 150 σ [zI s, zI t] Q := by
  refine V_entry ok_X8_isPaper (Nat.le_refl _) (Nat.le_of_ble_eq_true rfl) (V_ls [(0, zI s), (1, zI t)] ⟨rfl, rfl, trivial⟩ ?_)
  obtain ⟨d0, d1, d2, d3, d6, d9, d10, d11, d12, d15, d18, d19, d22, d23, -⟩ := D_X8_isPaper
  refine V_iload_n (pc := 0) d0 rfl ?_
  refine V_iconst (pc := 1) d1 ?_
  refine V_iconst (pc := 2) d2 ?_
  refine V_cS3 (pc := 3) ca_8_32 d3 (by decide) (Nat.le_of_ble_eq_true rfl) (c_X8_in (by omega) (by omega) (by omega) (fun h_in => ?_) (fun h_in => ?_))
  · refine V_if_eq (pc := 6) d6 (by decide) (by decide) (fun h => absurd h (by decide)) (fun _ => ?_)
    refine V_iload_n (pc := 9) d9 rfl ?_
    refine V_iconst (pc := 10) d10 ?_
    refine V_iconst (pc := 11) d11 ?_
    refine V_cS3 (pc := 12) ca_8_32 d12 (by decide) (Nat.le_of_ble_eq_true rfl) (c_X8_in (by omega) (by omega) (by omega) (fun h_in => ?_) (fun h_in => ?_))
    · refine V_if_eq (pc := 15) d15 (by decide) (by decide) (fun h => absurd h (by decide)) (fun _ => ?_)
      refine V_iconst (pc := 18) d18 ?_
      refine V_goto (pc := 19) d19 (by decide) ?_
      refine V_ret (pc := 23) (v := some (zI _)) ⟨d23, _, rfl, by decide⟩ ?_
      first | exact k1 (by omega) | exact k0 (by omega)
    · refine V_if_eq (pc := 15) d15 (by decide) (by decide) (fun _ => ?_) (fun h => absurd (by decide) h)
      refine V_iconst (pc := 22) d22 ?_
      refine V_ret (pc := 23) (v := some (zI _)) ⟨d23, _, rfl, by decide⟩ ?_
      first | exact k1 (by omega) | exact k0 (by omega)
  · refine V_if_eq (pc := 6) d6 (by decide) (by decide) (fun _ => ?_) (fun h => absurd (by decide) h)
    refine V_iconst (pc := 22) d22 ?_
    refine V_ret (pc := 23) (v := some (zI _)) ⟨d23, _, rfl, by decide⟩ ?_
    first | exact k1 (by omega) | exact k0 (by omega)
theorem c_X8_isTray {σ : Sto} {Q : Option Value → Sto → Prop} {t : Int} (r_t : -2147483648 ≤ t ∧ t < 2147483648) (k1 : 0 ≤ t ∧ t ≤ 3 → Q (some (zI 1)) σ) (k0 : ¬ (0 ≤ t ∧ t ≤ 3) → Q (some (zI 0)) σ) : Con M_X8_isTray 150 150 σ [zI t] Q := by
  refine V_entry ok_X8_isTray (Nat.le_refl _) (Nat.le_of_ble_eq_true rfl) (V_ls [(0, zI t)] ⟨rfl, trivial⟩ ?_)
  obtain ⟨d0, d1, d2, d3, d6, -⟩ := D_X8_isTray
  refine V_iload_n (pc := 0) d0 rfl ?_
  refine V_iconst (pc := 1) d1 ?_
  refine V_iconst (pc := 2) d2 ?_
  refine V_cS3 (pc := 3) ca_8_32 d3 (by decide) (Nat.le_of_ble_eq_true rfl) (c_X8_in (by omega) (by omega) (by omega) (fun h_in => ?_) (fun h_in => ?_))
  · refine V_ret (pc := 6) (v := some (zI _)) ⟨d6, _, rfl, by decide⟩ ?_
    first | exact k1 (by omega) | exact k0 (by omega)
  · refine V_ret (pc := 6) (v := some (zI _)) ⟨d6, _, rfl, by decide⟩ ?_
    first | exact k1 (by omega) | exact k0 (by omega)
theorem c_X8_isPages {σ : Sto} {Q : Option Value → Sto → Prop} {t : Int} (r_t : -2147483648 ≤ t ∧ t < 2147483648) (k1 : 1 ≤ t ∧ t ≤ 200 → Q (some (zI 1)) σ) (k0 : ¬ (1 ≤ t ∧ t ≤ 200) → Q (some (zI 0)) σ) : Con M_X8_isPages 150 150 σ [zI t] Q := by
  refine V_entry ok_X8_isPages (Nat.le_refl _) (Nat.le_of_ble_eq_true rfl) (V_ls [(0, zI t)] ⟨rfl, trivial⟩ ?_)
  obtain ⟨d0, d1, d2, d5, d8, -⟩ := D_X8_isPages
  refine V_iload_n (pc := 0) d0 rfl ?_
  refine V_iconst (pc := 1) d1 ?_
  refine V_sipush (pc := 2) (by decide) d2 ?_
  refine V_cS3 (pc := 5) ca_8_32 d5 (by decide) (Nat.le_of_ble_eq_true rfl) (c_X8_in (by omega) (by omega) (by omega) (fun h_in => ?_) (fun h_in => ?_))
  · refine V_ret (pc := 8) (v := some (zI _)) ⟨d8, _, rfl, by decide⟩ ?_
    first | exact k1 (by omega) | exact k0 (by omega)
  · refine V_ret (pc := 8) (v := some (zI _)) ⟨d8, _, rfl, by decide⟩ ?_
    first | exact k1 (by omega) | exact k0 (by omega)
theorem c_X8_isCopies {σ : Sto} {Q : Option Value → Sto → Prop} {t : Int} (r_t : -2147483648 ≤ t ∧ t < 2147483648) (k1 : 1 ≤ t ∧ t ≤ 50 → Q (some (zI 1)) σ) (k0 : ¬ (1 ≤ t ∧ t ≤ 50) → Q (some (zI 0)) σ) : Con M_X8_isCopies 150 150 σ [zI t] Q := by
  refine V_entry ok_X8_isCopies (Nat.le_refl _) (Nat.le_of_ble_eq_true rfl) (V_ls [(0, zI t)] ⟨rfl, trivial⟩ ?_)
  obtain ⟨d0, d1, d2, d4, d7, -⟩ := D_X8_isCopies
  refine V_iload_n (pc := 0) d0 rfl ?_
  refine V_iconst (pc := 1) d1 ?_
  refine V_bipush (pc := 2) (by decide) d2 ?_
  refine V_cS3 (pc := 4) ca_8_32 d4 (by decide) (Nat.le_of_ble_eq_true rfl) (c_X8_in (by omega) (by omega) (by omega) (fun h_in => ?_) (fun h_in => ?_))
  · refine V_ret (pc := 7) (v := some (zI _)) ⟨d7, _, rfl, by decide⟩ ?_
    first | exact k1 (by omega) | exact k0 (by omega)
  · refine V_ret (pc := 7) (v := some (zI _)) ⟨d7, _, rfl, by decide⟩ ?_
    first | exact k1 (by omega) | exact k0 (by omega)
theorem c_X8_jobAt {σ : Sto} {Q : Option Value → Sto → Prop} {p : Int} (k : Q (some (zI (85 + 10 * p))) σ) : Con M_X8_jobAt 150 150 σ [zI p] Q := by
  refine V_entry ok_X8_jobAt (Nat.le_refl _) (Nat.le_of_ble_eq_true rfl) (V_ls [(0, zI p)] ⟨rfl, trivial⟩ ?_)
  obtain ⟨d0, d2, d4, d5, d6, d7, -⟩ := D_X8_jobAt
  refine V_bipush (pc := 0) (by decide) d0 ?_
  refine V_bipush (pc := 2) (by decide) d2 ?_
  refine V_iload_n (pc := 4) d4 rfl ?_
  refine V_imul (pc := 5) d5 ?_
  refine V_iadd (pc := 6) d6 ?_
  refine V_ret (pc := 7) (v := some (zI _)) ⟨d7, _, rfl, rfl⟩ ?_
  exact k
theorem c_X8_of {σ : Sto} {now : Int → Int} {P : PT} {T : TT} {Q : Option Value → Sto → Prop} {p w : Int} (h : 0 ≤ 85 + 10 * p + w ∧ 85 + 10 * p + w < 185) (k : Q (some (zI (jf now p w))) (mst σ now P T)) : Con M_X8_of 150 150 (mst σ now P T) [.ref 144, zI p, zI w] Q := by
  refine V_entry ok_X8_of (Nat.le_refl _) (Nat.le_of_ble_eq_true rfl) (V_ls [(0, .ref 144), (1, zI p), (2, zI w)] ⟨rfl, rfl, rfl, trivial⟩ ?_)
  obtain ⟨d0, d1, d4, d5, d8, d9, d10, d11, -⟩ := D_X8_of
  refine V_aload_n (pc := 0) d0 rfl (Or.inl ⟨_, rfl⟩) ?_
  refine V_getR (pc := 1) (q := 0) (j := 145) fx_8_7 d1 rfl rfl (by decide) rfl rfl ?_
  refine V_iload_n (pc := 4) d4 rfl ?_
  refine V_cS1 (pc := 5) ca_8_60 d5 (by decide) (Nat.le_of_ble_eq_true rfl) (c_X8_jobAt ?_)
  refine V_iload_n (pc := 8) d8 rfl ?_
  refine V_iadd (pc := 9) d9 ?_
  refine Vm_now (pc := 10) d10 (by omega) ?_
  refine V_ret (pc := 11) (v := some (zI _)) ⟨d11, _, rfl, rfl⟩ ?_
  exact k
theorem c_X8_setOf {σ : Sto} {Q : Option Value → Sto → Prop} {p w : Int} (hw : 0 ≤ w ∧ w < 16) (hp : 0 ≤ p ∧ p ≤ 1000) (k : Q (some (zI (sof p w))) σ) : Con M_X8_setOf 150 150 σ [zI p, zI w] Q := by
  refine V_entry ok_X8_setOf (Nat.le_refl _) (Nat.le_of_ble_eq_true rfl) (V_ls [(0, zI p), (1, zI w)] ⟨rfl, rfl, trivial⟩ ?_)
  obtain ⟨d0, d1, d2, d3, d4, d7, d8, d9, d10, d11, d12, d15, d16, -⟩ := D_X8_setOf
  have b1 := ba_1 w (by omega) (by omega)
  refine V_iload_n (pc := 0) d0 rfl ?_
  refine V_iconst (pc := 1) d1 ?_
  refine V_iand (pc := 2) d2 ?_
  refine V_iconst (pc := 3) d3 ?_
  refine V_icmp_ne (pc := 4) d4 (by decide) (by omega) (by decide) (fun h4 => ?_) (fun h4 => ?_)
  · refine V_iload_n (pc := 15) d15 rfl ?_
    refine V_ret (pc := 16) (v := some (zI _)) ⟨d16, _, rfl, rfl⟩ ?_
    exact Qv k (by unfold sof; split <;> omega) rfl
  · refine V_iload_n (pc := 7) d7 rfl ?_
    refine V_iconst (pc := 8) d8 ?_
    refine V_iadd (pc := 9) d9 ?_
    refine V_iconst (pc := 10) d10 ?_
    refine V_idiv (pc := 11) d11 (by omega) (by decide) ?_
    refine V_goto (pc := 12) d12 (by decide) ?_
    refine V_ret (pc := 16) (v := some (zI _)) ⟨d16, _, rfl, rfl⟩ ?_
    exact Qv k (by unfold sof; split <;> omega) rfl
theorem c_X8_isOf {σ : Sto} {now : Int → Int} {P : PT} {T : TT} {Q : Option Value → Sto → Prop} {t s q : Int} (hR : RB now) (ht : 0 ≤ t ∧ t ≤ 3) (r_s : -2147483648 ≤ s ∧ s < 2147483648) (r_q : -2147483648 ≤ q ∧ q < 2147483648) (k1 : now (25 + 3 * t) = s ∧ now (25 + 3 * t + 1) = q → Q (some (zI 1)) (mst σ now P T)) (k0 : ¬ (now (25 + 3 * t) = s ∧ now (25 + 3 * t + 1) = q) → Q (some (zI 0)) (mst σ now P T)) : Con M_X8_isOf 150 150 (mst σ now P T) [.ref 144, zI t, zI s, zI q] Q := by
  refine V_entry ok_X8_isOf (Nat.le_refl _) (Nat.le_of_ble_eq_true rfl) (V_ls [(0, .ref 144), (1, zI t), (2, zI s), (3, zI q)] ⟨rfl, rfl, rfl, rfl, trivial⟩ ?_)
  obtain ⟨d0, d1, d4, d6, d7, d8, d9, d10, d11, d12, d15, d16, d19, d21, d22, d23, d24, d25, d26, d27, d28, d29, d32, d33, d36, d37, -⟩ := D_X8_isOf
  have g1 := hR (25 + 3 * t) (by omega) (by omega) (by omega)
  have g2 := hR (25 + 3 * t + 1) (by omega) (by omega) (by omega)
  refine V_aload_n (pc := 0) d0 rfl (Or.inl ⟨_, rfl⟩) ?_
  refine V_getR (pc := 1) (q := 0) (j := 145) fx_8_7 d1 rfl rfl (by decide) rfl rfl ?_
  refine V_bipush (pc := 4) (by decide) d4 ?_
  refine V_iconst (pc := 6) d6 ?_
  refine V_iload_n (pc := 7) d7 rfl ?_
  refine V_imul (pc := 8) d8 ?_
  refine V_iadd (pc := 9) d9 ?_
  refine Vm_now (pc := 10) d10 (by omega) ?_
  refine V_iload_n (pc := 11) d11 rfl ?_
  refine V_icmp_ne (pc := 12) d12 (by decide) (by omega) (by omega) (fun h12 => ?_) (fun h12 => ?_)
  · refine V_iconst (pc := 36) d36 ?_
    refine V_ret (pc := 37) (v := some (zI _)) ⟨d37, _, rfl, by decide⟩ ?_
    first | exact k1 (by omega) | exact k0 (by omega)
  · refine V_aload_n (pc := 15) d15 rfl (Or.inl ⟨_, rfl⟩) ?_
    refine V_getR (pc := 16) (q := 0) (j := 145) fx_8_7 d16 rfl rfl (by decide) rfl rfl ?_
    refine V_bipush (pc := 19) (by decide) d19 ?_
    refine V_iconst (pc := 21) d21 ?_
    refine V_iload_n (pc := 22) d22 rfl ?_
    refine V_imul (pc := 23) d23 ?_
    refine V_iadd (pc := 24) d24 ?_
    refine V_iconst (pc := 25) d25 ?_
    refine V_iadd (pc := 26) d26 ?_
    refine Vm_now (pc := 27) d27 (by omega) ?_
    refine V_iload_n (pc := 28) d28 rfl ?_
    refine V_icmp_ne (pc := 29) d29 (by decide) (by omega) (by omega) (fun h29 => ?_) (fun h29 => ?_)
    · refine V_iconst (pc := 36) d36 ?_
      refine V_ret (pc := 37) (v := some (zI _)) ⟨d37, _, rfl, by decide⟩ ?_
      first | exact k1 (by omega) | exact k0 (by omega)
    · refine V_iconst (pc := 32) d32 ?_
      refine V_goto (pc := 33) d33 (by decide) ?_
      refine V_ret (pc := 37) (v := some (zI _)) ⟨d37, _, rfl, by decide⟩ ?_
      first | exact k1 (by omega) | exact k0 (by omega)
end
section
/-! the model's questions -/
def lsubE (ls : List (Nat × Value)) : List (Nat × Value) → Prop
  | [] => True
  | q :: r => (∃ x, lk q.1 ls = some x ∧ x = q.2) ∧ lsubE ls r
theorem lsubE_sub {ls : List (Nat × Value)} : ∀ {l : List (Nat × Value)}, lsubE ls l → lsub ls l
  | [], _ => trivial
  | q :: r, h => by
    obtain ⟨⟨x, h1, h2⟩, h3⟩ := h
    exact ⟨by rw [h1, h2], lsubE_sub h3⟩
theorem V_lq {M : MI} {N N1 pc : Nat} {ls : List (Nat × Value)} {st : List Value} {Q : Option Value → Sto → Prop} {σ : Sto} (ls' : List (Nat × Value)) (h : lsubE ls ls') (k : V M N1 pc ls' st N σ Q) : V M N1 pc ls st N σ Q := V_ls ls' (lsubE_sub h) k
theorem V_sq {M : MI} {N N1 pc : Nat} {ls : List (Nat × Value)} {st : List Value} {Q : Option Value → Sto → Prop} {σ σ' : Sto} (h : σ = σ') (k : V M N1 pc ls st N σ' Q) : V M N1 pc ls st N σ Q := by rw [h]; exact k
theorem loop_nat {I : Nat → Prop} (hi : Nat) (h : ∀ n : Nat, n ≤ hi → (n + 1 ≤ hi → I (n + 1)) → I n) : ∀ n : Nat, n ≤ hi → I n := by
  have key : ∀ m n : Nat, n + m = hi → I n := by
    intro m
    induction m with
    | zero => exact fun n e => h n (by omega) (fun z => absurd z (by omega))
    | succ m ih => exact fun n e => h n (by omega) (fun _ => ih (n + 1) (by omega))
  exact fun n hn => key (hi - n) n (by omega)
theorem loop_up {I : Int → Prop} (hi : Int) (h : ∀ n : Int, n ≤ hi → (∀ n' : Int, n < n' → n' ≤ hi → I n') → I n) : ∀ n : Int, n ≤ hi → I n := by
  have key : ∀ (m : Nat) (n : Int), hi - n ≤ (m : Int) → n ≤ hi → I n := by
    intro m
    induction m with
    | zero => exact fun n e hn => h n hn (fun n' h1 h2 => absurd h1 (by omega))
    | succ m ih => exact fun n e hn => h n hn (fun n' h1 h2 => ih n' (by omega) h2)
  exact fun n hn => key (hi - n).toNat n (by omega) hn
/-- a job's numbers are in their ranges -/
def JB (r : Int → Int) (p : Int) : Prop := 0 ≤ p ∧ p < 10 ∧ 0 ≤ jf r p 0 ∧ jf r p 0 ≤ 3000000 ∧ 1 ≤ jf r p 1 ∧ jf r p 1 ≤ 200 ∧ 1 ≤ jf r p 2 ∧ jf r p 2 ≤ 50 ∧ 0 ≤ jf r p 3 ∧ jf r p 3 ≤ 3 ∧ 0 ≤ jf r p 4 ∧ jf r p 4 ≤ 3 ∧ 0 ≤ jf r p 5 ∧ jf r p 5 < 16 ∧ 0 ≤ jf r p 6 ∧ jf r p 6 ≤ 9 ∧ 0 ≤ jf r p 7 ∧ jf r p 7 ≤ 1 ∧ 0 ≤ jf r p 8 ∧ jf r p 8 ≤ 10000 ∧ 0 ≤ jf r p 9 ∧ jf r p 9 ≤ 1000
/-- all numbers of a row are in their ranges -/
def RR (r : Int → Int) : Prop := RB r ∧ (0 ≤ r 0 ∧ r 0 ≤ 10) ∧ (0 ≤ r 9 ∧ r 9 ≤ 16) ∧ ∀ p : Int, 0 ≤ p → p < r 0 → JB r p
def sst (r : Int → Int) (p : Int) : Int := sof (jf r p 1) (jf r p 5)
def als (r : Int → Int) (p : Int) : Int := sst r p * jf r p 2
theorem sst_rg {r : Int → Int} {p : Int} (h : JB r p) : 1 ≤ sst r p ∧ sst r p ≤ 200 := by
  unfold JB at h
  exact sof_rg (by omega) (by omega)
theorem als_rg {r : Int → Int} {p : Int} (h : JB r p) : 1 ≤ als r p ∧ als r p ≤ 10000 := by
  have h1 := sst_rg h
  unfold JB at h
  unfold als
  have a : 1 * 1 ≤ sst r p * jf r p 2 := Int.mul_le_mul h1.1 (by omega) (by omega) (by omega)
  have c : sst r p * jf r p 2 ≤ 200 * 50 := Int.mul_le_mul h1.2 (by omega) (by omega) (by omega)
  omega
theorem dv_rg {x y : Int} (hx : 0 ≤ x) (hy : 0 < y) : 0 ≤ x / y ∧ x / y ≤ x ∧ 0 ≤ x % y ∧ x % y < y :=
  ⟨Int.ediv_nonneg hx (by omega), Int.ediv_le_self y hx, Int.emod_nonneg x (by omega), Int.emod_lt_of_pos x hy⟩
def nsh (r : Int → Int) (p : Int) : Int := if jf r p 5 / 2 % 2 = 1 then jf r p 8 % sst r p else jf r p 8 / jf r p 2
def ncp (r : Int → Int) (p : Int) : Int := if jf r p 5 / 2 % 2 = 1 then jf r p 8 / sst r p else jf r p 8 % jf r p 2
theorem nsh_rg {r : Int → Int} {p : Int} (h : JB r p) : 0 ≤ nsh r p ∧ nsh r p ≤ 10000 := by
  have h1 := sst_rg h
  unfold JB at h
  have a := dv_rg (x := jf r p 8) (y := sst r p) (by omega) (by omega)
  have b := dv_rg (x := jf r p 8) (y := jf r p 2) (by omega) (by omega)
  unfold nsh
  split <;> omega
abbrev ahd (r : Int → Int) (p q : Int) : Prop := (¬ jf r p 7 = jf r q 7 ∧ jf r p 7 = 0) ∨ (jf r p 7 = jf r q 7 ∧ (((jf r p 0 = r 7 ∨ jf r q 0 = r 7) ∧ jf r p 0 = r 7) ∨ (¬ (jf r p 0 = r 7 ∨ jf r q 0 = r 7) ∧ ((¬ jf r p 6 = jf r q 6 ∧ jf r q 6 < jf r p 6) ∨ (jf r p 6 = jf r q 6 ∧ p < q)))))
abbrev hset (r : Int → Int) (p : Int) : Prop := 0 < jf r p 5 / 4 ∧ jf r p 9 < jf r p 8 / sst r p
/-- the sheets of a paper in the first n trays -/
def shA (r : Int → Int) (s q : Int) : Nat → Int
  | 0 => 0
  | n + 1 => shA r s q n + (if r (25 + 3 * (n : Int)) = s ∧ r (25 + 3 * (n : Int) + 1) = q then r (25 + 3 * (n : Int) + 2) else 0)
def wst (r : Int → Int) (p : Int) : Int := if p < 0 then 1 else if hset r p then (if r 3 < jf r p 5 / 4 then 4 else 0) else if shA r (jf r p 3) (jf r p 4) 4 = 0 then 2 else if r 15 ≤ r 2 then 3 else 0
def sid (r : Int → Int) (p : Int) : Int := if jf r p 5 % 2 = 1 ∧ (nsh r p < sst r p - 1 ∨ jf r p 1 % 2 = 0) then 2 else 1
/-- where a job lies -/
noncomputable def plc (r : Int → Int) (j : Int) : Int := by
  classical exact if h : ∃ p, 0 ≤ p ∧ p < r 0 ∧ jf r p 0 = j ∧ ∀ i, 0 ≤ i → i < p → ¬ jf r i 0 = j then h.choose else -1
theorem plc_at {r : Int → Int} {j p : Int} (h0 : 0 ≤ p) (h1 : p < r 0) (h2 : jf r p 0 = j) (h3 : ∀ i, 0 ≤ i → i < p → ¬ jf r i 0 = j) : plc r j = p := by
  have h : ∃ p, 0 ≤ p ∧ p < r 0 ∧ jf r p 0 = j ∧ ∀ i, 0 ≤ i → i < p → ¬ jf r i 0 = j := ⟨p, h0, h1, h2, h3⟩
  unfold plc
  rw [dif_pos h]
  obtain ⟨a, c, d, f⟩ := h.choose_spec
  generalize h.choose = q at a c d f
  rcases Int.lt_trichotomy p q with z | z | z
  · exact absurd h2 (f p h0 z)
  · exact z.symm
  · exact absurd d (h3 q a z)
theorem plc_no {r : Int → Int} {j : Int} (h3 : ∀ i, 0 ≤ i → i < r 0 → ¬ jf r i 0 = j) : plc r j = -1 := by
  unfold plc
  rw [dif_neg (fun ⟨p, a, c, d, f⟩ => h3 p a c d)]
theorem plc_sp (r : Int → Int) (j : Int) : (plc r j = -1 ∧ ∀ i, 0 ≤ i → i < r 0 → ¬ jf r i 0 = j) ∨ (0 ≤ plc r j ∧ plc r j < r 0 ∧ jf r (plc r j) 0 = j ∧ ∀ i, 0 ≤ i → i < plc r j → ¬ jf r i 0 = j) := by
  classical
  by_cases h : ∃ p, 0 ≤ p ∧ p < r 0 ∧ jf r p 0 = j ∧ ∀ i, 0 ≤ i → i < p → ¬ jf r i 0 = j
  · obtain ⟨p, a, c, d, f⟩ := h
    rw [plc_at a c d f]
    exact Or.inr ⟨a, c, d, f⟩
  · refine Or.inl ?_
    have h3 : ∀ n : Nat, ∀ i : Int, 0 ≤ i → i < r 0 → i < n → ¬ jf r i 0 = j := by
      intro n
      induction n with
      | zero => exact fun i a _ c => absurd c (by omega)
      | succ n ih => exact fun i a c _ d => h ⟨i, a, c, d, fun k e f => ih k e (by omega) (by omega)⟩
    have h4 : ∀ i, 0 ≤ i → i < r 0 → ¬ jf r i 0 = j := fun i a c => h3 (i + 1).toNat i a c (by omega)
    exact ⟨plc_no h4, h4⟩
/-- the next job among the first n -/
def nxF (r : Int → Int) : Nat → Int
  | 0 => -1
  | n + 1 => if jf r (n : Int) 7 = 0 ∧ (nxF r n < 0 ∨ ahd r (n : Int) (nxF r n)) then (n : Int) else nxF r n
def nxj (r : Int → Int) : Int := nxF r (r 0).toNat
theorem nxF_rg (r : Int → Int) : ∀ n : Nat, -1 ≤ nxF r n ∧ nxF r n < (n : Int) ∧ (0 ≤ nxF r n → jf r (nxF r n) 7 = 0)
  | 0 => ⟨by unfold nxF; omega, by unfold nxF; omega, fun h => absurd h (by unfold nxF; omega)⟩
  | n + 1 => by
    have h := nxF_rg r n
    unfold nxF
    split
    · next q => exact ⟨by omega, by omega, fun _ => q.1⟩
    · exact ⟨h.1, by omega, h.2.2⟩
def hdN (r : Int → Int) : Nat → Int
  | 0 => 0
  | n + 1 => hdN r n + jf r (n : Int) 7
/-- how many of the first n are ahead of job k -/
def ahN (r : Int → Int) (k : Int) : Nat → Int
  | 0 => 0
  | n + 1 => ahN r k n + (if ¬ (n : Int) = k ∧ ahd r (n : Int) k then 1 else 0)
theorem ahN_rg (r : Int → Int) (k : Int) : ∀ n : Nat, 0 ≤ ahN r k n ∧ ahN r k n ≤ (n : Int)
  | 0 => ⟨Int.le_refl _, Int.le_refl _⟩
  | n + 1 => by
    have h := ahN_rg r k n
    unfold ahN
    split <;> omega
/-- the job at a place of the order, from the n-th on -/
def quF (r : Int → Int) (p : Int) : Nat → Nat → Int
  | 0, _ => -4
  | m + 1, n => if ahN r (n : Int) (r 0).toNat = p then jf r (n : Int) 0 else quF r p m (n + 1)
/-- what lacks, over the first n jobs -/
def lkN (r : Int → Int) (s q : Int) : Nat → Int
  | 0 => - shA r s q 4
  | n + 1 => lkN r s q n + (if jf r (n : Int) 3 = s ∧ jf r (n : Int) 4 = q then als r (n : Int) - jf r (n : Int) 8 - (if r 5 = 1 ∧ r 6 = jf r (n : Int) 0 then 1 else 0) else 0)
def wny (r : Int → Int) (pg kd hw : Int) : Int := if hw < 4 then 0 else if hw / 2 % 2 = 0 then 1 else if kd = 3 then 2 else if sof pg hw = 1 then 3 else if (if kd = 1 then r 13 / 2 else r 13) < sof pg hw then 4 else 0
def telF (r : Int → Int) (p w : Int) : Int := if w = 7 then sst r p else if w = 8 then als r p else if w = 9 then jf r p 8 else if w = 10 then jf r p 9 else if w = 11 then (if jf r p 8 = als r p then -4 else nsh r p) else if w = 12 then (if jf r p 8 = als r p then -4 else ncp r p) else jf r p (1 + w)
theorem c_X8_setSheets {σ : Sto} {now : Int → Int} {P : PT} {T : TT} {Q : Option Value → Sto → Prop} {p : Int} (hJ : JB now p) (k : Q (some (zI (sst now p))) (mst σ now P T)) : Con M_X8_setSheets 150 150 (mst σ now P T) [.ref 144, zI p] Q := by
  refine V_entry ok_X8_setSheets (Nat.le_refl _) (Nat.le_of_ble_eq_true rfl) (V_ls [(0, .ref 144), (1, zI p)] ⟨rfl, rfl, trivial⟩ ?_)
  obtain ⟨d0, d1, d2, d3, d6, d7, d8, d9, d12, d15, -⟩ := D_X8_setSheets
  have j := hJ
  unfold JB at j
  refine V_aload_n (pc := 0) d0 rfl (Or.inl ⟨_, rfl⟩) ?_
  refine V_iload_n (pc := 1) d1 rfl ?_
  refine V_iconst (pc := 2) d2 ?_
  refine V_cV2 (pc := 3) ca_8_64 d3 (by decide) (Nat.le_of_ble_eq_true rfl) (by decide) rfl (by decide) (c_X8_of (by omega) ?_)
  refine V_aload_n (pc := 6) d6 rfl (Or.inl ⟨_, rfl⟩) ?_
  refine V_iload_n (pc := 7) d7 rfl ?_
  refine V_iconst (pc := 8) d8 ?_
  refine V_cV2 (pc := 9) ca_8_64 d9 (by decide) (Nat.le_of_ble_eq_true rfl) (by decide) rfl (by decide) (c_X8_of (by omega) ?_)
  refine V_cS2 (pc := 12) ca_8_67 d12 (by decide) (Nat.le_of_ble_eq_true rfl) (c_X8_setOf (by omega) (by omega) ?_)
  refine V_ret (pc := 15) (v := some (zI _)) ⟨d15, _, rfl, rfl⟩ ?_
  exact k
theorem c_X8_allSheets {σ : Sto} {now : Int → Int} {P : PT} {T : TT} {Q : Option Value → Sto → Prop} {p : Int} (hJ : JB now p) (k : Q (some (zI (als now p))) (mst σ now P T)) : Con M_X8_allSheets 150 150 (mst σ now P T) [.ref 144, zI p] Q := by
  refine V_entry ok_X8_allSheets (Nat.le_refl _) (Nat.le_of_ble_eq_true rfl) (V_ls [(0, .ref 144), (1, zI p)] ⟨rfl, rfl, trivial⟩ ?_)
  obtain ⟨d0, d1, d2, d5, d6, d7, d8, d11, d12, -⟩ := D_X8_allSheets
  have j := hJ
  unfold JB at j
  refine V_aload_n (pc := 0) d0 rfl (Or.inl ⟨_, rfl⟩) ?_
  refine V_iload_n (pc := 1) d1 rfl ?_
  refine V_cV1 (pc := 2) ca_8_97 d2 (by decide) (Nat.le_of_ble_eq_true rfl) (by decide) rfl (by decide) (c_X8_setSheets hJ ?_)
  refine V_aload_n (pc := 5) d5 rfl (Or.inl ⟨_, rfl⟩) ?_
  refine V_iload_n (pc := 6) d6 rfl ?_
  refine V_iconst (pc := 7) d7 ?_
  refine V_cV2 (pc := 8) ca_8_64 d8 (by decide) (Nat.le_of_ble_eq_true rfl) (by decide) rfl (by decide) (c_X8_of (by omega) ?_)
  refine V_imul (pc := 11) d11 ?_
  refine V_ret (pc := 12) (v := some (zI _)) ⟨d12, _, rfl, rfl⟩ ?_
  exact k
theorem c_X8_isGathered {σ : Sto} {now : Int → Int} {P : PT} {T : TT} {Q : Option Value → Sto → Prop} {p : Int} (hJ : JB now p) (k1 : jf now p 5 / 2 % 2 = 1 → Q (some (zI 1)) (mst σ now P T)) (k0 : ¬ (jf now p 5 / 2 % 2 = 1) → Q (some (zI 0)) (mst σ now P T)) : Con M_X8_isGathered 150 150 (mst σ now P T) [.ref 144, zI p] Q := by
  refine V_entry ok_X8_isGathered (Nat.le_refl _) (Nat.le_of_ble_eq_true rfl) (V_ls [(0, .ref 144), (1, zI p)] ⟨rfl, rfl, trivial⟩ ?_)
  obtain ⟨d0, d1, d2, d3, d6, d7, d8, d9, d12, d13, d16, d17, -⟩ := D_X8_isGathered
  have j := hJ
  unfold JB at j
  have b1 := ba_2 (jf now p 5) (by omega) (by omega)
  refine V_aload_n (pc := 0) d0 rfl (Or.inl ⟨_, rfl⟩) ?_
  refine V_iload_n (pc := 1) d1 rfl ?_
  refine V_iconst (pc := 2) d2 ?_
  refine V_cV2 (pc := 3) ca_8_64 d3 (by decide) (Nat.le_of_ble_eq_true rfl) (by decide) rfl (by decide) (c_X8_of (by omega) ?_)
  refine V_iconst (pc := 6) d6 ?_
  refine V_iand (pc := 7) d7 ?_
  refine V_iconst (pc := 8) d8 ?_
  refine V_icmp_ne (pc := 9) d9 (by decide) (by omega) (by decide) (fun h9 => ?_) (fun h9 => ?_)
  · refine V_iconst (pc := 16) d16 ?_
    refine V_ret (pc := 17) (v := some (zI _)) ⟨d17, _, rfl, by decide⟩ ?_
    first | exact k1 (by omega) | exact k0 (by omega)
  · refine V_iconst (pc := 12) d12 ?_
    refine V_goto (pc := 13) d13 (by decide) ?_
    refine V_ret (pc := 17) (v := some (zI _)) ⟨d17, _, rfl, by decide⟩ ?_
    first | exact k1 (by omega) | exact k0 (by omega)
theorem c_X8_nextSheet {σ : Sto} {now : Int → Int} {P : PT} {T : TT} {Q : Option Value → Sto → Prop} {p : Int} (hJ : JB now p) (k : Q (some (zI (nsh now p))) (mst σ now P T)) : Con M_X8_nextSheet 150 150 (mst σ now P T) [.ref 144, zI p] Q := by
  refine V_entry ok_X8_nextSheet (Nat.le_refl _) (Nat.le_of_ble_eq_true rfl) (V_ls [(0, .ref 144), (1, zI p)] ⟨rfl, rfl, trivial⟩ ?_)
  obtain ⟨d0, d1, d2, d5, d8, d9, d10, d12, d15, d16, d17, d20, d21, d24, d25, d26, d28, d31, d32, d33, d34, d37, d38, -⟩ := D_X8_nextSheet
  have j := hJ
  unfold JB at j
  have s := sst_rg hJ
  refine V_aload_n (pc := 0) d0 rfl (Or.inl ⟨_, rfl⟩) ?_
  refine V_iload_n (pc := 1) d1 rfl ?_
  refine V_cV1 (pc := 2) ca_8_100 d2 (by decide) (Nat.le_of_ble_eq_true rfl) (by decide) rfl (by decide) (c_X8_isGathered hJ (fun h_g => ?_) (fun h_g => ?_))
  · refine V_if_eq (pc := 5) d5 (by decide) (by decide) (fun h => absurd h (by decide)) (fun _ => ?_)
    refine V_aload_n (pc := 8) d8 rfl (Or.inl ⟨_, rfl⟩) ?_
    refine V_iload_n (pc := 9) d9 rfl ?_
    refine V_bipush (pc := 10) (by decide) d10 ?_
    refine V_cV2 (pc := 12) ca_8_64 d12 (by decide) (Nat.le_of_ble_eq_true rfl) (by decide) rfl (by decide) (c_X8_of (by omega) ?_)
    refine V_aload_n (pc := 15) d15 rfl (Or.inl ⟨_, rfl⟩) ?_
    refine V_iload_n (pc := 16) d16 rfl ?_
    refine V_cV1 (pc := 17) ca_8_97 d17 (by decide) (Nat.le_of_ble_eq_true rfl) (by decide) rfl (by decide) (c_X8_setSheets hJ ?_)
    refine V_irem (pc := 20) d20 (by omega) (by omega) ?_
    refine V_goto (pc := 21) d21 (by decide) ?_
    refine V_ret (pc := 38) (v := some (zI _)) ⟨d38, _, rfl, rfl⟩ ?_
    exact Qv k (by unfold nsh; split <;> first | rfl | omega) rfl
  · refine V_if_eq (pc := 5) d5 (by decide) (by decide) (fun _ => ?_) (fun h => absurd (by decide) h)
    refine V_aload_n (pc := 24) d24 rfl (Or.inl ⟨_, rfl⟩) ?_
    refine V_iload_n (pc := 25) d25 rfl ?_
    refine V_bipush (pc := 26) (by decide) d26 ?_
    refine V_cV2 (pc := 28) ca_8_64 d28 (by decide) (Nat.le_of_ble_eq_true rfl) (by decide) rfl (by decide) (c_X8_of (by omega) ?_)
    refine V_aload_n (pc := 31) d31 rfl (Or.inl ⟨_, rfl⟩) ?_
    refine V_iload_n (pc := 32) d32 rfl ?_
    refine V_iconst (pc := 33) d33 ?_
    refine V_cV2 (pc := 34) ca_8_64 d34 (by decide) (Nat.le_of_ble_eq_true rfl) (by decide) rfl (by decide) (c_X8_of (by omega) ?_)
    refine V_idiv (pc := 37) d37 (by omega) (by omega) ?_
    refine V_ret (pc := 38) (v := some (zI _)) ⟨d38, _, rfl, rfl⟩ ?_
    exact Qv k (by unfold nsh; split <;> first | rfl | omega) rfl
theorem c_X8_nextCopy {σ : Sto} {now : Int → Int} {P : PT} {T : TT} {Q : Option Value → Sto → Prop} {p : Int} (hJ : JB now p) (k : Q (some (zI (ncp now p))) (mst σ now P T)) : Con M_X8_nextCopy 150 150 (mst σ now P T) [.ref 144, zI p] Q := by
  refine V_entry ok_X8_nextCopy (Nat.le_refl _) (Nat.le_of_ble_eq_true rfl) (V_ls [(0, .ref 144), (1, zI p)] ⟨rfl, rfl, trivial⟩ ?_)
  obtain ⟨d0, d1, d2, d5, d8, d9, d10, d12, d15, d16, d17, d20, d21, d24, d25, d26, d28, d31, d32, d33, d34, d37, d38, -⟩ := D_X8_nextCopy
  have j := hJ
  unfold JB at j
  have s := sst_rg hJ
  refine V_aload_n (pc := 0) d0 rfl (Or.inl ⟨_, rfl⟩) ?_
  refine V_iload_n (pc := 1) d1 rfl ?_
  refine V_cV1 (pc := 2) ca_8_100 d2 (by decide) (Nat.le_of_ble_eq_true rfl) (by decide) rfl (by decide) (c_X8_isGathered hJ (fun h_g => ?_) (fun h_g => ?_))
  · refine V_if_eq (pc := 5) d5 (by decide) (by decide) (fun h => absurd h (by decide)) (fun _ => ?_)
    refine V_aload_n (pc := 8) d8 rfl (Or.inl ⟨_, rfl⟩) ?_
    refine V_iload_n (pc := 9) d9 rfl ?_
    refine V_bipush (pc := 10) (by decide) d10 ?_
    refine V_cV2 (pc := 12) ca_8_64 d12 (by decide) (Nat.le_of_ble_eq_true rfl) (by decide) rfl (by decide) (c_X8_of (by omega) ?_)
    refine V_aload_n (pc := 15) d15 rfl (Or.inl ⟨_, rfl⟩) ?_
    refine V_iload_n (pc := 16) d16 rfl ?_
    refine V_cV1 (pc := 17) ca_8_97 d17 (by decide) (Nat.le_of_ble_eq_true rfl) (by decide) rfl (by decide) (c_X8_setSheets hJ ?_)
    refine V_idiv (pc := 20) d20 (by omega) (by omega) ?_
    refine V_goto (pc := 21) d21 (by decide) ?_
    refine V_ret (pc := 38) (v := some (zI _)) ⟨d38, _, rfl, rfl⟩ ?_
    exact Qv k (by unfold ncp; split <;> first | rfl | omega) rfl
  · refine V_if_eq (pc := 5) d5 (by decide) (by decide) (fun _ => ?_) (fun h => absurd (by decide) h)
    refine V_aload_n (pc := 24) d24 rfl (Or.inl ⟨_, rfl⟩) ?_
    refine V_iload_n (pc := 25) d25 rfl ?_
    refine V_bipush (pc := 26) (by decide) d26 ?_
    refine V_cV2 (pc := 28) ca_8_64 d28 (by decide) (Nat.le_of_ble_eq_true rfl) (by decide) rfl (by decide) (c_X8_of (by omega) ?_)
    refine V_aload_n (pc := 31) d31 rfl (Or.inl ⟨_, rfl⟩) ?_
    refine V_iload_n (pc := 32) d32 rfl ?_
    refine V_iconst (pc := 33) d33 ?_
    refine V_cV2 (pc := 34) ca_8_64 d34 (by decide) (Nat.le_of_ble_eq_true rfl) (by decide) rfl (by decide) (c_X8_of (by omega) ?_)
    refine V_irem (pc := 37) d37 (by omega) (by omega) ?_
    refine V_ret (pc := 38) (v := some (zI _)) ⟨d38, _, rfl, rfl⟩ ?_
    exact Qv k (by unfold ncp; split <;> first | rfl | omega) rfl
theorem c_X8_staplesOf {σ : Sto} {now : Int → Int} {P : PT} {T : TT} {Q : Option Value → Sto → Prop} {p : Int} (hJ : JB now p) (k : Q (some (zI (jf now p 5 / 4))) (mst σ now P T)) : Con M_X8_staplesOf 150 150 (mst σ now P T) [.ref 144, zI p] Q := by
  refine V_entry ok_X8_staplesOf (Nat.le_refl _) (Nat.le_of_ble_eq_true rfl) (V_ls [(0, .ref 144), (1, zI p)] ⟨rfl, rfl, trivial⟩ ?_)
  obtain ⟨d0, d1, d2, d3, d6, d7, d8, -⟩ := D_X8_staplesOf
  have j := hJ
  unfold JB at j
  refine V_aload_n (pc := 0) d0 rfl (Or.inl ⟨_, rfl⟩) ?_
  refine V_iload_n (pc := 1) d1 rfl ?_
  refine V_iconst (pc := 2) d2 ?_
  refine V_cV2 (pc := 3) ca_8_64 d3 (by decide) (Nat.le_of_ble_eq_true rfl) (by decide) rfl (by decide) (c_X8_of (by omega) ?_)
  refine V_iconst (pc := 6) d6 ?_
  refine V_idiv (pc := 7) d7 (by omega) (by decide) ?_
  refine V_ret (pc := 8) (v := some (zI _)) ⟨d8, _, rfl, rfl⟩ ?_
  exact k
theorem c_X8_hasSet {σ : Sto} {now : Int → Int} {P : PT} {T : TT} {Q : Option Value → Sto → Prop} {p : Int} (hJ : JB now p) (k1 : hset now p → Q (some (zI 1)) (mst σ now P T)) (k0 : ¬ (hset now p) → Q (some (zI 0)) (mst σ now P T)) : Con M_X8_hasSet 150 150 (mst σ now P T) [.ref 144, zI p] Q := by
  refine V_entry ok_X8_hasSet (Nat.le_refl _) (Nat.le_of_ble_eq_true rfl) (V_ls [(0, .ref 144), (1, zI p)] ⟨rfl, rfl, trivial⟩ ?_)
  obtain ⟨d0, d1, d2, d5, d8, d9, d10, d12, d15, d16, d17, d20, d21, d22, d23, d25, d28, d31, d32, d35, d36, -⟩ := D_X8_hasSet
  have j := hJ
  unfold JB at j
  have s := sst_rg hJ
  have dv := dv_rg (x := jf now p 8) (y := sst now p) (by omega) (by omega)
  refine V_aload_n (pc := 0) d0 rfl (Or.inl ⟨_, rfl⟩) ?_
  refine V_iload_n (pc := 1) d1 rfl ?_
  refine V_cV1 (pc := 2) ca_8_118 d2 (by decide) (Nat.le_of_ble_eq_true rfl) (by decide) rfl (by decide) (c_X8_staplesOf hJ ?_)
  refine V_if_le (pc := 5) d5 (by decide) (by omega) (fun h5 => ?_) (fun h5 => ?_)
  · refine V_iconst (pc := 35) d35 ?_
    refine V_ret (pc := 36) (v := some (zI _)) ⟨d36, _, rfl, by decide⟩ ?_
    first | exact k1 (by omega) | exact k0 (by omega)
  · refine V_aload_n (pc := 8) d8 rfl (Or.inl ⟨_, rfl⟩) ?_
    refine V_iload_n (pc := 9) d9 rfl ?_
    refine V_bipush (pc := 10) (by decide) d10 ?_
    refine V_cV2 (pc := 12) ca_8_64 d12 (by decide) (Nat.le_of_ble_eq_true rfl) (by decide) rfl (by decide) (c_X8_of (by omega) ?_)
    refine V_aload_n (pc := 15) d15 rfl (Or.inl ⟨_, rfl⟩) ?_
    refine V_iload_n (pc := 16) d16 rfl ?_
    refine V_cV1 (pc := 17) ca_8_97 d17 (by decide) (Nat.le_of_ble_eq_true rfl) (by decide) rfl (by decide) (c_X8_setSheets hJ ?_)
    refine V_idiv (pc := 20) d20 (by omega) (by omega) ?_
    refine V_aload_n (pc := 21) d21 rfl (Or.inl ⟨_, rfl⟩) ?_
    refine V_iload_n (pc := 22) d22 rfl ?_
    refine V_bipush (pc := 23) (by decide) d23 ?_
    refine V_cV2 (pc := 25) ca_8_64 d25 (by decide) (Nat.le_of_ble_eq_true rfl) (by decide) rfl (by decide) (c_X8_of (by omega) ?_)
    refine V_icmp_le (pc := 28) d28 (by decide) (by omega) (by omega) (fun h28 => ?_) (fun h28 => ?_)
    · refine V_iconst (pc := 35) d35 ?_
      refine V_ret (pc := 36) (v := some (zI _)) ⟨d36, _, rfl, by decide⟩ ?_
      first | exact k1 (by omega) | exact k0 (by omega)
    · refine V_iconst (pc := 31) d31 ?_
      refine V_goto (pc := 32) d32 (by decide) ?_
      refine V_ret (pc := 36) (v := some (zI _)) ⟨d36, _, rfl, by decide⟩ ?_
      first | exact k1 (by omega) | exact k0 (by omega)
theorem L_X8_sheetsOf {σ : Sto} {now : Int → Int} {P : PT} {T : TT} {Q : Option Value → Sto → Prop} {s q : Int} (hR : RB now) (r_s : -2147483648 ≤ s ∧ s < 2147483648) (r_q : -2147483648 ≤ q ∧ q < 2147483648) (k : Q (some (zI (shA now s q 4))) (mst σ now P T)) : ∀ n : Nat, n ≤ 4 → V M_X8_sheetsOf 150 5 [(0, .ref 144), (1, zI s), (2, zI q), (3, zI (shA now s q n)), (4, zI (n : Int))] [] 150 (mst σ now P T) Q := by
  refine loop_nat (4) (fun n hn ih => ?_)
  obtain ⟨d0, d1, d2, d3, d5, d7, d8, d11, d12, d13, d15, d16, d17, d20, d23, d24, d27, d29, d30, d32, d33, d34, d35, d36, d37, d40, d41, d42, d43, d46, d49, d50, -⟩ := D_X8_sheetsOf
  refine V_iload (pc := 5) d5 rfl ?_
  refine V_iconst (pc := 7) d7 ?_
  refine V_icmp_ge (pc := 8) d8 (by decide) (by omega) (by decide) (fun h8 => ?_) (fun h8 => ?_)
  · refine V_iload_n (pc := 49) d49 rfl ?_
    refine V_ret (pc := 50) (v := some (zI _)) ⟨d50, _, rfl, rfl⟩ ?_
    exact Qv k (by rw [show n = 4 by omega]) rfl
  · refine V_iload_n (pc := 11) d11 rfl ?_
    refine V_aload_n (pc := 12) d12 rfl (Or.inl ⟨_, rfl⟩) ?_
    refine V_iload (pc := 13) d13 rfl ?_
    refine V_iload_n (pc := 15) d15 rfl ?_
    refine V_iload_n (pc := 16) d16 rfl ?_
    refine V_cV3 (pc := 17) ca_8_47 d17 (by decide) (Nat.le_of_ble_eq_true rfl) (by decide) rfl (by decide) (c_X8_isOf hR (by omega) (by omega) (by omega) (fun h_isOf => ?_) (fun h_isOf => ?_))
    · refine V_if_eq (pc := 20) d20 (by decide) (by decide) (fun h => absurd h (by decide)) (fun _ => ?_)
      refine V_aload_n (pc := 23) d23 rfl (Or.inl ⟨_, rfl⟩) ?_
      refine V_getR (pc := 24) (q := 0) (j := 145) fx_8_7 d24 rfl rfl (by decide) rfl rfl ?_
      refine V_bipush (pc := 27) (by decide) d27 ?_
      refine V_iconst (pc := 29) d29 ?_
      refine V_iload (pc := 30) d30 rfl ?_
      refine V_imul (pc := 32) d32 ?_
      refine V_iadd (pc := 33) d33 ?_
      refine V_iconst (pc := 34) d34 ?_
      refine V_iadd (pc := 35) d35 ?_
      refine Vm_now (pc := 36) d36 (by omega) ?_
      refine V_goto (pc := 37) d37 (by decide) ?_
      refine V_iadd (pc := 41) d41 ?_
      refine V_istore_n (pc := 42) d42 (by decide) ?_
      refine V_iinc (pc := 43) d43 rfl (by decide) ?_
      refine V_goto (pc := 46) d46 (by decide) ?_
      exact V_lq [(0, .ref 144), (1, zI s), (2, zI q), (3, zI (shA now s q (n + 1))), (4, zI ((n + 1 : Nat) : Int))] ⟨⟨_, rfl, rfl⟩, ⟨_, rfl, rfl⟩, ⟨_, rfl, rfl⟩, ⟨_, rfl, congrArg (fun e : Int => zI e) (by first | exact (show shA now s q n + (if _ then _ else _) = _ by rfl) | (show _ = shA now s q n + (if _ then _ else _); first | rw [if_pos h_isOf] | rw [if_neg h_isOf]))⟩, ⟨_, rfl, rfl⟩, trivial⟩ (ih (by omega))
    · refine V_if_eq (pc := 20) d20 (by decide) (by decide) (fun _ => ?_) (fun h => absurd (by decide) h)
      refine V_iconst (pc := 40) d40 ?_
      refine V_iadd (pc := 41) d41 ?_
      refine V_istore_n (pc := 42) d42 (by decide) ?_
      refine V_iinc (pc := 43) d43 rfl (by decide) ?_
      refine V_goto (pc := 46) d46 (by decide) ?_
      exact V_lq [(0, .ref 144), (1, zI s), (2, zI q), (3, zI (shA now s q (n + 1))), (4, zI ((n + 1 : Nat) : Int))] ⟨⟨_, rfl, rfl⟩, ⟨_, rfl, rfl⟩, ⟨_, rfl, rfl⟩, ⟨_, rfl, congrArg (fun e : Int => zI e) (by first | exact (show shA now s q n + (if _ then _ else _) = _ by rfl) | (show _ = shA now s q n + (if _ then _ else _); first | rw [if_pos h_isOf] | rw [if_neg h_isOf]))⟩, ⟨_, rfl, rfl⟩, trivial⟩ (ih (by omega))
theorem c_X8_sheetsOf {σ : Sto} {now : Int → Int} {P : PT} {T : TT} {Q : Option Value → Sto → Prop} {s q : Int} (hR : RB now) (r_s : -2147483648 ≤ s ∧ s < 2147483648) (r_q : -2147483648 ≤ q ∧ q < 2147483648) (k : Q (some (zI (shA now s q 4))) (mst σ now P T)) : Con M_X8_sheetsOf 150 150 (mst σ now P T) [.ref 144, zI s, zI q] Q := by
  refine V_entry ok_X8_sheetsOf (Nat.le_refl _) (Nat.le_of_ble_eq_true rfl) (V_ls [(0, .ref 144), (1, zI s), (2, zI q)] ⟨rfl, rfl, rfl, trivial⟩ ?_)
  obtain ⟨d0, d1, d2, d3, d5, d7, d8, d11, d12, d13, d15, d16, d17, d20, d23, d24, d27, d29, d30, d32, d33, d34, d35, d36, d37, d40, d41, d42, d43, d46, d49, d50, -⟩ := D_X8_sheetsOf
  refine V_iconst (pc := 0) d0 ?_
  refine V_istore_n (pc := 1) d1 (by decide) ?_
  refine V_iconst (pc := 2) d2 ?_
  refine V_istore (pc := 3) d3 (by decide) ?_
  exact V_lq [(0, .ref 144), (1, zI s), (2, zI q), (3, zI (shA now s q 0)), (4, zI ((0 : Nat) : Int))] ⟨⟨_, rfl, rfl⟩, ⟨_, rfl, rfl⟩, ⟨_, rfl, rfl⟩, ⟨_, rfl, rfl⟩, ⟨_, rfl, rfl⟩, trivial⟩ (L_X8_sheetsOf hR r_s r_q k 0 (by omega))
end
section
/-! the model's questions, the rest -/
theorem shA_rg {r : Int → Int} (hR : RB r) (s q : Int) : ∀ n : Nat, n ≤ 4 → -3000000 * (n : Int) ≤ shA r s q n ∧ shA r s q n ≤ 3000000 * (n : Int)
  | 0, _ => ⟨by unfold shA; omega, by unfold shA; omega⟩
  | n + 1, h => by
    have i := shA_rg hR s q n (by omega)
    have e := hR (25 + 3 * (n : Int) + 2) (by omega) (by omega) (by omega)
    unfold shA
    split <;> omega
theorem c_X8_sides {σ : Sto} {now : Int → Int} {P : PT} {T : TT} {Q : Option Value → Sto → Prop} {p : Int} (hJ : JB now p) (k : Q (some (zI (sid now p))) (mst σ now P T)) : Con M_X8_sides 150 150 (mst σ now P T) [.ref 144, zI p] Q := by
  refine V_entry ok_X8_sides (Nat.le_refl _) (Nat.le_of_ble_eq_true rfl) (V_ls [(0, .ref 144), (1, zI p)] ⟨rfl, rfl, trivial⟩ ?_)
  obtain ⟨d0, d1, d2, d3, d6, d7, d8, d9, d12, d13, d14, d17, d18, d19, d22, d23, d24, d27, d28, d29, d30, d33, d34, d35, d38, d39, d42, d43, d44, d45, d48, d49, d52, d53, -⟩ := D_X8_sides
  have jj := hJ
  unfold JB at jj
  have s := sst_rg hJ
  have b1 := ba_1 (jf now p 5) (by omega) (by omega)
  have ns := nsh_rg hJ
  refine V_aload_n (pc := 0) d0 rfl (Or.inl ⟨_, rfl⟩) ?_
  refine V_iload_n (pc := 1) d1 rfl ?_
  refine V_iconst (pc := 2) d2 ?_
  refine V_cV2 (pc := 3) ca_8_64 d3 (by decide) (Nat.le_of_ble_eq_true rfl) (by decide) rfl (by decide) (c_X8_of (by omega) ?_)
  refine V_iconst (pc := 6) d6 ?_
  refine V_iand (pc := 7) d7 ?_
  refine V_iconst (pc := 8) d8 ?_
  refine V_icmp_ne (pc := 9) d9 (by decide) (by omega) (by decide) (fun h9 => ?_) (fun h9 => ?_)
  · refine V_iconst (pc := 42) d42 ?_
    refine V_istore_n (pc := 43) d43 (by decide) ?_
    refine V_iload_n (pc := 44) d44 rfl ?_
    refine V_if_eq (pc := 45) d45 (by decide) (by decide) (fun _ => ?_) (fun h => absurd (by decide) h)
    refine V_iconst (pc := 52) d52 ?_
    refine V_ret (pc := 53) (v := some (zI _)) ⟨d53, _, rfl, rfl⟩ ?_
    exact Qv k (by unfold sid; split <;> omega) rfl
  · refine V_aload_n (pc := 12) d12 rfl (Or.inl ⟨_, rfl⟩) ?_
    refine V_iload_n (pc := 13) d13 rfl ?_
    refine V_cV1 (pc := 14) ca_8_106 d14 (by decide) (Nat.le_of_ble_eq_true rfl) (by decide) rfl (by decide) (c_X8_nextSheet (by assumption) ?_)
    refine V_aload_n (pc := 17) d17 rfl (Or.inl ⟨_, rfl⟩) ?_
    refine V_iload_n (pc := 18) d18 rfl ?_
    refine V_cV1 (pc := 19) ca_8_97 d19 (by decide) (Nat.le_of_ble_eq_true rfl) (by decide) rfl (by decide) (c_X8_setSheets (by assumption) ?_)
    refine V_iconst (pc := 22) d22 ?_
    refine V_isub (pc := 23) d23 ?_
    refine V_icmp_lt (pc := 24) d24 (by decide) (by omega) (by omega) (fun h24 => ?_) (fun h24 => ?_)
    · refine V_iconst (pc := 38) d38 ?_
      refine V_goto (pc := 39) d39 (by decide) ?_
      refine V_istore_n (pc := 43) d43 (by decide) ?_
      refine V_iload_n (pc := 44) d44 rfl ?_
      refine V_if_eq (pc := 45) d45 (by decide) (by decide) (fun h => absurd h (by decide)) (fun _ => ?_)
      refine V_iconst (pc := 48) d48 ?_
      refine V_goto (pc := 49) d49 (by decide) ?_
      refine V_ret (pc := 53) (v := some (zI _)) ⟨d53, _, rfl, rfl⟩ ?_
      exact Qv k (by unfold sid; split <;> omega) rfl
    · refine V_aload_n (pc := 27) d27 rfl (Or.inl ⟨_, rfl⟩) ?_
      refine V_iload_n (pc := 28) d28 rfl ?_
      refine V_iconst (pc := 29) d29 ?_
      refine V_cV2 (pc := 30) ca_8_64 d30 (by decide) (Nat.le_of_ble_eq_true rfl) (by decide) rfl (by decide) (c_X8_of (by omega) ?_)
      refine V_iconst (pc := 33) d33 ?_
      refine V_irem (pc := 34) d34 (by omega) (by decide) ?_
      refine V_if_ne (pc := 35) d35 (by decide) (by omega) (fun h35 => ?_) (fun h35 => ?_)
      · refine V_iconst (pc := 42) d42 ?_
        refine V_istore_n (pc := 43) d43 (by decide) ?_
        refine V_iload_n (pc := 44) d44 rfl ?_
        refine V_if_eq (pc := 45) d45 (by decide) (by decide) (fun _ => ?_) (fun h => absurd (by decide) h)
        refine V_iconst (pc := 52) d52 ?_
        refine V_ret (pc := 53) (v := some (zI _)) ⟨d53, _, rfl, rfl⟩ ?_
        exact Qv k (by unfold sid; split <;> omega) rfl
      · refine V_iconst (pc := 38) d38 ?_
        refine V_goto (pc := 39) d39 (by decide) ?_
        refine V_istore_n (pc := 43) d43 (by decide) ?_
        refine V_iload_n (pc := 44) d44 rfl ?_
        refine V_if_eq (pc := 45) d45 (by decide) (by decide) (fun h => absurd h (by decide)) (fun _ => ?_)
        refine V_iconst (pc := 48) d48 ?_
        refine V_goto (pc := 49) d49 (by decide) ?_
        refine V_ret (pc := 53) (v := some (zI _)) ⟨d53, _, rfl, rfl⟩ ?_
        exact Qv k (by unfold sid; split <;> omega) rfl
theorem c_X8_whyStop {σ : Sto} {now : Int → Int} {P : PT} {T : TT} {Q : Option Value → Sto → Prop} {p : Int} (hR : RR now) (hp : p < 0 ∨ JB now p) (r_p : -2147483648 ≤ p ∧ p < 2147483648) (k : Q (some (zI (wst now p))) (mst σ now P T)) : Con M_X8_whyStop 150 150 (mst σ now P T) [.ref 144, zI p] Q := by
  refine V_entry ok_X8_whyStop (Nat.le_refl _) (Nat.le_of_ble_eq_true rfl) (V_ls [(0, .ref 144), (1, zI p)] ⟨rfl, rfl, trivial⟩ ?_)
  obtain ⟨d0, d1, d4, d5, d6, d7, d8, d11, d14, d15, d18, d19, d20, d21, d22, d25, d28, d29, d32, d33, d34, d35, d36, d37, d38, d41, d42, d43, d44, d47, d50, d53, d54, d57, d58, d61, d62, d63, d64, d67, d69, d70, d73, d74, d77, d78, -⟩ := D_X8_whyStop
  have g2 := hR.1 2 (by decide) (by decide) (by decide)
  have g3 := hR.1 3 (by decide) (by decide) (by decide)
  have g15 := hR.1 15 (by decide) (by decide) (by decide)
  have sh := shA_rg hR.1 (jf now p 3) (jf now p 4) 4 (by omega)
  refine V_iload_n (pc := 0) d0 rfl ?_
  refine V_if_ge (pc := 1) d1 (by decide) (by omega) (fun h1 => ?_) (fun h1 => ?_)
  · have hJ : JB now p := hp.resolve_left (by omega)
    have jj := hJ
    unfold JB at jj
    refine V_aload_n (pc := 6) d6 rfl (Or.inl ⟨_, rfl⟩) ?_
    refine V_iload_n (pc := 7) d7 rfl ?_
    refine V_cV1 (pc := 8) ca_8_121 d8 (by decide) (Nat.le_of_ble_eq_true rfl) (by decide) rfl (by decide) (c_X8_hasSet (by assumption) (fun h_hs => ?_) (fun h_hs => ?_))
    · refine V_if_eq (pc := 11) d11 (by decide) (by decide) (fun h => absurd h (by decide)) (fun _ => ?_)
      refine V_aload_n (pc := 14) d14 rfl (Or.inl ⟨_, rfl⟩) ?_
      refine V_getR (pc := 15) (q := 0) (j := 145) fx_8_7 d15 rfl rfl (by decide) rfl rfl ?_
      refine V_iconst (pc := 18) d18 ?_
      refine Vm_now (pc := 19) d19 (by decide) ?_
      refine V_aload_n (pc := 20) d20 rfl (Or.inl ⟨_, rfl⟩) ?_
      refine V_iload_n (pc := 21) d21 rfl ?_
      refine V_cV1 (pc := 22) ca_8_118 d22 (by decide) (Nat.le_of_ble_eq_true rfl) (by decide) rfl (by decide) (c_X8_staplesOf (by assumption) ?_)
      refine V_icmp_ge (pc := 25) d25 (by decide) (by omega) (by omega) (fun h25 => ?_) (fun h25 => ?_)
      · refine V_iconst (pc := 32) d32 ?_
        refine V_ret (pc := 33) (v := some (zI _)) ⟨d33, _, rfl, rfl⟩ ?_
        exact Qv k (by unfold wst; (repeat' split) <;> omega) rfl
      · refine V_iconst (pc := 28) d28 ?_
        refine V_goto (pc := 29) d29 (by decide) ?_
        refine V_ret (pc := 33) (v := some (zI _)) ⟨d33, _, rfl, rfl⟩ ?_
        exact Qv k (by unfold wst; (repeat' split) <;> omega) rfl
    · refine V_if_eq (pc := 11) d11 (by decide) (by decide) (fun _ => ?_) (fun h => absurd (by decide) h)
      refine V_aload_n (pc := 34) d34 rfl (Or.inl ⟨_, rfl⟩) ?_
      refine V_aload_n (pc := 35) d35 rfl (Or.inl ⟨_, rfl⟩) ?_
      refine V_iload_n (pc := 36) d36 rfl ?_
      refine V_iconst (pc := 37) d37 ?_
      refine V_cV2 (pc := 38) ca_8_64 d38 (by decide) (Nat.le_of_ble_eq_true rfl) (by decide) rfl (by decide) (c_X8_of (by omega) ?_)
      refine V_aload_n (pc := 41) d41 rfl (Or.inl ⟨_, rfl⟩) ?_
      refine V_iload_n (pc := 42) d42 rfl ?_
      refine V_iconst (pc := 43) d43 ?_
      refine V_cV2 (pc := 44) ca_8_64 d44 (by decide) (Nat.le_of_ble_eq_true rfl) (by decide) rfl (by decide) (c_X8_of (by omega) ?_)
      refine V_cV2 (pc := 47) ca_8_50 d47 (by decide) (Nat.le_of_ble_eq_true rfl) (by decide) rfl (by decide) (c_X8_sheetsOf hR.1 (by omega) (by omega) ?_)
      refine V_if_ne (pc := 50) d50 (by decide) (by omega) (fun h50 => ?_) (fun h50 => ?_)
      · refine V_aload_n (pc := 57) d57 rfl (Or.inl ⟨_, rfl⟩) ?_
        refine V_getR (pc := 58) (q := 0) (j := 145) fx_8_7 d58 rfl rfl (by decide) rfl rfl ?_
        refine V_iconst (pc := 61) d61 ?_
        refine Vm_now (pc := 62) d62 (by decide) ?_
        refine V_aload_n (pc := 63) d63 rfl (Or.inl ⟨_, rfl⟩) ?_
        refine V_getR (pc := 64) (q := 0) (j := 145) fx_8_7 d64 rfl rfl (by decide) rfl rfl ?_
        refine V_bipush (pc := 67) (by decide) d67 ?_
        refine Vm_now (pc := 69) d69 (by decide) ?_
        refine V_icmp_lt (pc := 70) d70 (by decide) (by omega) (by omega) (fun h70 => ?_) (fun h70 => ?_)
        · refine V_iconst (pc := 77) d77 ?_
          refine V_ret (pc := 78) (v := some (zI _)) ⟨d78, _, rfl, rfl⟩ ?_
          exact Qv k (by unfold wst; (repeat' split) <;> omega) rfl
        · refine V_iconst (pc := 73) d73 ?_
          refine V_goto (pc := 74) d74 (by decide) ?_
          refine V_ret (pc := 78) (v := some (zI _)) ⟨d78, _, rfl, rfl⟩ ?_
          exact Qv k (by unfold wst; (repeat' split) <;> omega) rfl
      · refine V_iconst (pc := 53) d53 ?_
        refine V_goto (pc := 54) d54 (by decide) ?_
        refine V_ret (pc := 78) (v := some (zI _)) ⟨d78, _, rfl, rfl⟩ ?_
        exact Qv k (by unfold wst; (repeat' split) <;> omega) rfl
  · refine V_iconst (pc := 4) d4 ?_
    refine V_ret (pc := 5) (v := some (zI _)) ⟨d5, _, rfl, rfl⟩ ?_
    exact Qv k (by unfold wst; (repeat' split) <;> omega) rfl
theorem c_X8_isAhead {σ : Sto} {now : Int → Int} {P : PT} {T : TT} {Q : Option Value → Sto → Prop} {p q : Int} (h7 : -3000000 ≤ now 7 ∧ now 7 ≤ 3000000) (hJ : JB now p) (hK : JB now q) (k1 : ahd now p q → Q (some (zI 1)) (mst σ now P T)) (k0 : ¬ (ahd now p q) → Q (some (zI 0)) (mst σ now P T)) : Con M_X8_isAhead 150 150 (mst σ now P T) [.ref 144, zI p, zI q] Q := by
  refine V_entry ok_X8_isAhead (Nat.le_refl _) (Nat.le_of_ble_eq_true rfl) (V_ls [(0, .ref 144), (1, zI p), (2, zI q)] ⟨rfl, rfl, rfl, trivial⟩ ?_)
  obtain ⟨d0, d1, d2, d4, d7, d8, d9, d11, d14, d17, d18, d19, d21, d24, d27, d28, d31, d32, d33, d34, d35, d36, d39, d40, d43, d45, d46, d49, d50, d51, d52, d55, d56, d59, d61, d62, d65, d66, d67, d68, d71, d72, d75, d77, d78, d81, d82, d85, d86, d87, d88, d89, d91, d94, d95, d96, d98, d101, d104, d105, d106, d108, d111, d112, d113, d115, d118, d121, d122, d125, d126, d129, d130, d131, d134, d135, d138, d139, -⟩ := D_X8_isAhead
  have jj := hJ
  unfold JB at jj
  have k := hK
  unfold JB at k
  refine V_aload_n (pc := 0) d0 rfl (Or.inl ⟨_, rfl⟩) ?_
  refine V_iload_n (pc := 1) d1 rfl ?_
  refine V_bipush (pc := 2) (by decide) d2 ?_
  refine V_cV2 (pc := 4) ca_8_64 d4 (by decide) (Nat.le_of_ble_eq_true rfl) (by decide) rfl (by decide) (c_X8_of (by omega) ?_)
  refine V_aload_n (pc := 7) d7 rfl (Or.inl ⟨_, rfl⟩) ?_
  refine V_iload_n (pc := 8) d8 rfl ?_
  refine V_bipush (pc := 9) (by decide) d9 ?_
  refine V_cV2 (pc := 11) ca_8_64 d11 (by decide) (Nat.le_of_ble_eq_true rfl) (by decide) rfl (by decide) (c_X8_of (by omega) ?_)
  refine V_icmp_eq (pc := 14) d14 (by decide) (by omega) (by omega) (fun h14 => ?_) (fun h14 => ?_)
  · refine V_aload_n (pc := 33) d33 rfl (Or.inl ⟨_, rfl⟩) ?_
    refine V_iload_n (pc := 34) d34 rfl ?_
    refine V_iconst (pc := 35) d35 ?_
    refine V_cV2 (pc := 36) ca_8_64 d36 (by decide) (Nat.le_of_ble_eq_true rfl) (by decide) rfl (by decide) (c_X8_of (by omega) ?_)
    refine V_aload_n (pc := 39) d39 rfl (Or.inl ⟨_, rfl⟩) ?_
    refine V_getR (pc := 40) (q := 0) (j := 145) fx_8_7 d40 rfl rfl (by decide) rfl rfl ?_
    refine V_bipush (pc := 43) (by decide) d43 ?_
    refine Vm_now (pc := 45) d45 (by decide) ?_
    refine V_icmp_eq (pc := 46) d46 (by decide) (by omega) (by omega) (fun h46 => ?_) (fun h46 => ?_)
    · refine V_aload_n (pc := 65) d65 rfl (Or.inl ⟨_, rfl⟩) ?_
      refine V_iload_n (pc := 66) d66 rfl ?_
      refine V_iconst (pc := 67) d67 ?_
      refine V_cV2 (pc := 68) ca_8_64 d68 (by decide) (Nat.le_of_ble_eq_true rfl) (by decide) rfl (by decide) (c_X8_of (by omega) ?_)
      refine V_aload_n (pc := 71) d71 rfl (Or.inl ⟨_, rfl⟩) ?_
      refine V_getR (pc := 72) (q := 0) (j := 145) fx_8_7 d72 rfl rfl (by decide) rfl rfl ?_
      refine V_bipush (pc := 75) (by decide) d75 ?_
      refine Vm_now (pc := 77) d77 (by decide) ?_
      refine V_icmp_ne (pc := 78) d78 (by decide) (by omega) (by omega) (fun h78 => ?_) (fun h78 => ?_)
      · refine V_iconst (pc := 85) d85 ?_
        refine V_ret (pc := 86) (v := some (zI _)) ⟨d86, _, rfl, by decide⟩ ?_
        first | exact k1 (by omega) | exact k0 (by omega)
      · refine V_iconst (pc := 81) d81 ?_
        refine V_goto (pc := 82) d82 (by decide) ?_
        refine V_ret (pc := 86) (v := some (zI _)) ⟨d86, _, rfl, by decide⟩ ?_
        first | exact k1 (by omega) | exact k0 (by omega)
    · refine V_aload_n (pc := 49) d49 rfl (Or.inl ⟨_, rfl⟩) ?_
      refine V_iload_n (pc := 50) d50 rfl ?_
      refine V_iconst (pc := 51) d51 ?_
      refine V_cV2 (pc := 52) ca_8_64 d52 (by decide) (Nat.le_of_ble_eq_true rfl) (by decide) rfl (by decide) (c_X8_of (by omega) ?_)
      refine V_aload_n (pc := 55) d55 rfl (Or.inl ⟨_, rfl⟩) ?_
      refine V_getR (pc := 56) (q := 0) (j := 145) fx_8_7 d56 rfl rfl (by decide) rfl rfl ?_
      refine V_bipush (pc := 59) (by decide) d59 ?_
      refine Vm_now (pc := 61) d61 (by decide) ?_
      refine V_icmp_ne (pc := 62) d62 (by decide) (by omega) (by omega) (fun h62 => ?_) (fun h62 => ?_)
      · refine V_aload_n (pc := 87) d87 rfl (Or.inl ⟨_, rfl⟩) ?_
        refine V_iload_n (pc := 88) d88 rfl ?_
        refine V_bipush (pc := 89) (by decide) d89 ?_
        refine V_cV2 (pc := 91) ca_8_64 d91 (by decide) (Nat.le_of_ble_eq_true rfl) (by decide) rfl (by decide) (c_X8_of (by omega) ?_)
        refine V_aload_n (pc := 94) d94 rfl (Or.inl ⟨_, rfl⟩) ?_
        refine V_iload_n (pc := 95) d95 rfl ?_
        refine V_bipush (pc := 96) (by decide) d96 ?_
        refine V_cV2 (pc := 98) ca_8_64 d98 (by decide) (Nat.le_of_ble_eq_true rfl) (by decide) rfl (by decide) (c_X8_of (by omega) ?_)
        refine V_icmp_eq (pc := 101) d101 (by decide) (by omega) (by omega) (fun h101 => ?_) (fun h101 => ?_)
        · refine V_iload_n (pc := 129) d129 rfl ?_
          refine V_iload_n (pc := 130) d130 rfl ?_
          refine V_icmp_ge (pc := 131) d131 (by decide) (by omega) (by omega) (fun h131 => ?_) (fun h131 => ?_)
          · refine V_iconst (pc := 138) d138 ?_
            refine V_ret (pc := 139) (v := some (zI _)) ⟨d139, _, rfl, by decide⟩ ?_
            first | exact k1 (by omega) | exact k0 (by omega)
          · refine V_iconst (pc := 134) d134 ?_
            refine V_goto (pc := 135) d135 (by decide) ?_
            refine V_ret (pc := 139) (v := some (zI _)) ⟨d139, _, rfl, by decide⟩ ?_
            first | exact k1 (by omega) | exact k0 (by omega)
        · refine V_aload_n (pc := 104) d104 rfl (Or.inl ⟨_, rfl⟩) ?_
          refine V_iload_n (pc := 105) d105 rfl ?_
          refine V_bipush (pc := 106) (by decide) d106 ?_
          refine V_cV2 (pc := 108) ca_8_64 d108 (by decide) (Nat.le_of_ble_eq_true rfl) (by decide) rfl (by decide) (c_X8_of (by omega) ?_)
          refine V_aload_n (pc := 111) d111 rfl (Or.inl ⟨_, rfl⟩) ?_
          refine V_iload_n (pc := 112) d112 rfl ?_
          refine V_bipush (pc := 113) (by decide) d113 ?_
          refine V_cV2 (pc := 115) ca_8_64 d115 (by decide) (Nat.le_of_ble_eq_true rfl) (by decide) rfl (by decide) (c_X8_of (by omega) ?_)
          refine V_icmp_le (pc := 118) d118 (by decide) (by omega) (by omega) (fun h118 => ?_) (fun h118 => ?_)
          · refine V_iconst (pc := 125) d125 ?_
            refine V_goto (pc := 126) d126 (by decide) ?_
            refine V_ret (pc := 139) (v := some (zI _)) ⟨d139, _, rfl, by decide⟩ ?_
            first | exact k1 (by omega) | exact k0 (by omega)
          · refine V_iconst (pc := 121) d121 ?_
            refine V_goto (pc := 122) d122 (by decide) ?_
            refine V_ret (pc := 139) (v := some (zI _)) ⟨d139, _, rfl, by decide⟩ ?_
            first | exact k1 (by omega) | exact k0 (by omega)
      · refine V_aload_n (pc := 65) d65 rfl (Or.inl ⟨_, rfl⟩) ?_
        refine V_iload_n (pc := 66) d66 rfl ?_
        refine V_iconst (pc := 67) d67 ?_
        refine V_cV2 (pc := 68) ca_8_64 d68 (by decide) (Nat.le_of_ble_eq_true rfl) (by decide) rfl (by decide) (c_X8_of (by omega) ?_)
        refine V_aload_n (pc := 71) d71 rfl (Or.inl ⟨_, rfl⟩) ?_
        refine V_getR (pc := 72) (q := 0) (j := 145) fx_8_7 d72 rfl rfl (by decide) rfl rfl ?_
        refine V_bipush (pc := 75) (by decide) d75 ?_
        refine Vm_now (pc := 77) d77 (by decide) ?_
        refine V_icmp_ne (pc := 78) d78 (by decide) (by omega) (by omega) (fun h78 => ?_) (fun h78 => ?_)
        · refine V_iconst (pc := 85) d85 ?_
          refine V_ret (pc := 86) (v := some (zI _)) ⟨d86, _, rfl, by decide⟩ ?_
          first | exact k1 (by omega) | exact k0 (by omega)
        · refine V_iconst (pc := 81) d81 ?_
          refine V_goto (pc := 82) d82 (by decide) ?_
          refine V_ret (pc := 86) (v := some (zI _)) ⟨d86, _, rfl, by decide⟩ ?_
          first | exact k1 (by omega) | exact k0 (by omega)
  · refine V_aload_n (pc := 17) d17 rfl (Or.inl ⟨_, rfl⟩) ?_
    refine V_iload_n (pc := 18) d18 rfl ?_
    refine V_bipush (pc := 19) (by decide) d19 ?_
    refine V_cV2 (pc := 21) ca_8_64 d21 (by decide) (Nat.le_of_ble_eq_true rfl) (by decide) rfl (by decide) (c_X8_of (by omega) ?_)
    refine V_if_ne (pc := 24) d24 (by decide) (by omega) (fun h24 => ?_) (fun h24 => ?_)
    · refine V_iconst (pc := 31) d31 ?_
      refine V_ret (pc := 32) (v := some (zI _)) ⟨d32, _, rfl, by decide⟩ ?_
      first | exact k1 (by omega) | exact k0 (by omega)
    · refine V_iconst (pc := 27) d27 ?_
      refine V_goto (pc := 28) d28 (by decide) ?_
      refine V_ret (pc := 32) (v := some (zI _)) ⟨d32, _, rfl, by decide⟩ ?_
      first | exact k1 (by omega) | exact k0 (by omega)
theorem c_X8_tellJob {σ : Sto} {now : Int → Int} {P : PT} {T : TT} {Q : Option Value → Sto → Prop} {p w : Int} (hJ : JB now p) (hw : 0 ≤ w ∧ w ≤ 12) (k : Q (some (zI (telF now p w))) (mst σ now P T)) : Con M_X8_tellJob 150 150 (mst σ now P T) [.ref 144, zI p, zI w] Q := by
  refine V_entry ok_X8_tellJob (Nat.le_refl _) (Nat.le_of_ble_eq_true rfl) (V_ls [(0, .ref 144), (1, zI p), (2, zI w)] ⟨rfl, rfl, rfl, trivial⟩ ?_)
  obtain ⟨d0, d1, d2, d4, d7, d8, d9, d12, d15, d16, d19, d20, d21, d22, d60, d61, d62, d65, d66, d67, d68, d71, d72, d73, d74, d76, d79, d80, d81, d82, d84, d87, d88, d89, d92, d94, d97, d98, d99, d102, d103, d104, d107, d109, d112, d113, d114, d117, d118, d119, d120, d121, d122, d123, d126, -⟩ := D_X8_tellJob
  have jj := hJ
  unfold JB at jj
  have a := als_rg hJ
  refine V_aload_n (pc := 0) d0 rfl (Or.inl ⟨_, rfl⟩) ?_
  refine V_iload_n (pc := 1) d1 rfl ?_
  refine V_bipush (pc := 2) (by decide) d2 ?_
  refine V_cV2 (pc := 4) ca_8_64 d4 (by decide) (Nat.le_of_ble_eq_true rfl) (by decide) rfl (by decide) (c_X8_of (by omega) ?_)
  refine V_aload_n (pc := 7) d7 rfl (Or.inl ⟨_, rfl⟩) ?_
  refine V_iload_n (pc := 8) d8 rfl ?_
  refine V_cV1 (pc := 9) ca_8_103 d9 (by decide) (Nat.le_of_ble_eq_true rfl) (by decide) rfl (by decide) (c_X8_allSheets (by assumption) ?_)
  refine V_icmp_ne (pc := 12) d12 (by decide) (by omega) (by omega) (fun h12 => ?_) (fun h12 => ?_)
  · refine V_iconst (pc := 19) d19 ?_
    refine V_istore_n (pc := 20) d20 (by decide) ?_
    refine V_iload_n (pc := 21) d21 rfl ?_
    refine V_table (pc := 22) d22 (by decide) (by decide) (by decide) (by omega) (fun h22 => ?_) (fun j o h22 ho => ?_)
    · refine V_aload_n (pc := 118) d118 rfl (Or.inl ⟨_, rfl⟩) ?_
      refine V_iload_n (pc := 119) d119 rfl ?_
      refine V_iconst (pc := 120) d120 ?_
      refine V_iload_n (pc := 121) d121 rfl ?_
      refine V_iadd (pc := 122) d122 ?_
      refine V_cV2 (pc := 123) ca_8_64 d123 (by decide) (Nat.le_of_ble_eq_true rfl) (by decide) rfl (by decide) (c_X8_of (by omega) ?_)
      refine V_ret (pc := 126) (v := some (zI _)) ⟨d126, _, rfl, rfl⟩ ?_
      exact Qv k (by unfold telF; (repeat' split) <;> first | rfl | omega) rfl
    · match j, ho with
      | 0, ho =>
        obtain rfl := Option.some.inj ho
        refine V_aload_n (pc := 60) d60 rfl (Or.inl ⟨_, rfl⟩) ?_
        refine V_iload_n (pc := 61) d61 rfl ?_
        refine V_cV1 (pc := 62) ca_8_97 d62 (by decide) (Nat.le_of_ble_eq_true rfl) (by decide) rfl (by decide) (c_X8_setSheets (by assumption) ?_)
        refine V_ret (pc := 65) (v := some (zI _)) ⟨d65, _, rfl, rfl⟩ ?_
        exact Qv k (by unfold telF; (repeat' split) <;> first | rfl | omega) rfl
      | 1, ho =>
        obtain rfl := Option.some.inj ho
        refine V_aload_n (pc := 66) d66 rfl (Or.inl ⟨_, rfl⟩) ?_
        refine V_iload_n (pc := 67) d67 rfl ?_
        refine V_cV1 (pc := 68) ca_8_103 d68 (by decide) (Nat.le_of_ble_eq_true rfl) (by decide) rfl (by decide) (c_X8_allSheets (by assumption) ?_)
        refine V_ret (pc := 71) (v := some (zI _)) ⟨d71, _, rfl, rfl⟩ ?_
        exact Qv k (by unfold telF; (repeat' split) <;> first | rfl | omega) rfl
      | 2, ho =>
        obtain rfl := Option.some.inj ho
        refine V_aload_n (pc := 72) d72 rfl (Or.inl ⟨_, rfl⟩) ?_
        refine V_iload_n (pc := 73) d73 rfl ?_
        refine V_bipush (pc := 74) (by decide) d74 ?_
        refine V_cV2 (pc := 76) ca_8_64 d76 (by decide) (Nat.le_of_ble_eq_true rfl) (by decide) rfl (by decide) (c_X8_of (by omega) ?_)
        refine V_ret (pc := 79) (v := some (zI _)) ⟨d79, _, rfl, rfl⟩ ?_
        exact Qv k (by unfold telF; (repeat' split) <;> first | rfl | omega) rfl
      | 3, ho =>
        obtain rfl := Option.some.inj ho
        refine V_aload_n (pc := 80) d80 rfl (Or.inl ⟨_, rfl⟩) ?_
        refine V_iload_n (pc := 81) d81 rfl ?_
        refine V_bipush (pc := 82) (by decide) d82 ?_
        refine V_cV2 (pc := 84) ca_8_64 d84 (by decide) (Nat.le_of_ble_eq_true rfl) (by decide) rfl (by decide) (c_X8_of (by omega) ?_)
        refine V_ret (pc := 87) (v := some (zI _)) ⟨d87, _, rfl, rfl⟩ ?_
        exact Qv k (by unfold telF; (repeat' split) <;> first | rfl | omega) rfl
      | 4, ho =>
        obtain rfl := Option.some.inj ho
        refine V_iload_n (pc := 88) d88 rfl ?_
        refine V_if_eq (pc := 89) d89 (by decide) (by decide) (fun _ => ?_) (fun h => absurd (by decide) h)
        refine V_aload_n (pc := 97) d97 rfl (Or.inl ⟨_, rfl⟩) ?_
        refine V_iload_n (pc := 98) d98 rfl ?_
        refine V_cV1 (pc := 99) ca_8_106 d99 (by decide) (Nat.le_of_ble_eq_true rfl) (by decide) rfl (by decide) (c_X8_nextSheet (by assumption) ?_)
        refine V_ret (pc := 102) (v := some (zI _)) ⟨d102, _, rfl, rfl⟩ ?_
        exact Qv k (by unfold telF; (repeat' split) <;> first | rfl | omega) rfl
      | 5, ho =>
        obtain rfl := Option.some.inj ho
        refine V_iload_n (pc := 103) d103 rfl ?_
        refine V_if_eq (pc := 104) d104 (by decide) (by decide) (fun _ => ?_) (fun h => absurd (by decide) h)
        refine V_aload_n (pc := 112) d112 rfl (Or.inl ⟨_, rfl⟩) ?_
        refine V_iload_n (pc := 113) d113 rfl ?_
        refine V_cV1 (pc := 114) ca_8_109 d114 (by decide) (Nat.le_of_ble_eq_true rfl) (by decide) rfl (by decide) (c_X8_nextCopy (by assumption) ?_)
        refine V_ret (pc := 117) (v := some (zI _)) ⟨d117, _, rfl, rfl⟩ ?_
        exact Qv k (by unfold telF; (repeat' split) <;> first | rfl | omega) rfl
      | j + 6, ho => exact absurd ho (by simp)
  · refine V_iconst (pc := 15) d15 ?_
    refine V_goto (pc := 16) d16 (by decide) ?_
    refine V_istore_n (pc := 20) d20 (by decide) ?_
    refine V_iload_n (pc := 21) d21 rfl ?_
    refine V_table (pc := 22) d22 (by decide) (by decide) (by decide) (by omega) (fun h22 => ?_) (fun j o h22 ho => ?_)
    · refine V_aload_n (pc := 118) d118 rfl (Or.inl ⟨_, rfl⟩) ?_
      refine V_iload_n (pc := 119) d119 rfl ?_
      refine V_iconst (pc := 120) d120 ?_
      refine V_iload_n (pc := 121) d121 rfl ?_
      refine V_iadd (pc := 122) d122 ?_
      refine V_cV2 (pc := 123) ca_8_64 d123 (by decide) (Nat.le_of_ble_eq_true rfl) (by decide) rfl (by decide) (c_X8_of (by omega) ?_)
      refine V_ret (pc := 126) (v := some (zI _)) ⟨d126, _, rfl, rfl⟩ ?_
      exact Qv k (by unfold telF; (repeat' split) <;> first | rfl | omega) rfl
    · match j, ho with
      | 0, ho =>
        obtain rfl := Option.some.inj ho
        refine V_aload_n (pc := 60) d60 rfl (Or.inl ⟨_, rfl⟩) ?_
        refine V_iload_n (pc := 61) d61 rfl ?_
        refine V_cV1 (pc := 62) ca_8_97 d62 (by decide) (Nat.le_of_ble_eq_true rfl) (by decide) rfl (by decide) (c_X8_setSheets (by assumption) ?_)
        refine V_ret (pc := 65) (v := some (zI _)) ⟨d65, _, rfl, rfl⟩ ?_
        exact Qv k (by unfold telF; (repeat' split) <;> first | rfl | omega) rfl
      | 1, ho =>
        obtain rfl := Option.some.inj ho
        refine V_aload_n (pc := 66) d66 rfl (Or.inl ⟨_, rfl⟩) ?_
        refine V_iload_n (pc := 67) d67 rfl ?_
        refine V_cV1 (pc := 68) ca_8_103 d68 (by decide) (Nat.le_of_ble_eq_true rfl) (by decide) rfl (by decide) (c_X8_allSheets (by assumption) ?_)
        refine V_ret (pc := 71) (v := some (zI _)) ⟨d71, _, rfl, rfl⟩ ?_
        exact Qv k (by unfold telF; (repeat' split) <;> first | rfl | omega) rfl
      | 2, ho =>
        obtain rfl := Option.some.inj ho
        refine V_aload_n (pc := 72) d72 rfl (Or.inl ⟨_, rfl⟩) ?_
        refine V_iload_n (pc := 73) d73 rfl ?_
        refine V_bipush (pc := 74) (by decide) d74 ?_
        refine V_cV2 (pc := 76) ca_8_64 d76 (by decide) (Nat.le_of_ble_eq_true rfl) (by decide) rfl (by decide) (c_X8_of (by omega) ?_)
        refine V_ret (pc := 79) (v := some (zI _)) ⟨d79, _, rfl, rfl⟩ ?_
        exact Qv k (by unfold telF; (repeat' split) <;> first | rfl | omega) rfl
      | 3, ho =>
        obtain rfl := Option.some.inj ho
        refine V_aload_n (pc := 80) d80 rfl (Or.inl ⟨_, rfl⟩) ?_
        refine V_iload_n (pc := 81) d81 rfl ?_
        refine V_bipush (pc := 82) (by decide) d82 ?_
        refine V_cV2 (pc := 84) ca_8_64 d84 (by decide) (Nat.le_of_ble_eq_true rfl) (by decide) rfl (by decide) (c_X8_of (by omega) ?_)
        refine V_ret (pc := 87) (v := some (zI _)) ⟨d87, _, rfl, rfl⟩ ?_
        exact Qv k (by unfold telF; (repeat' split) <;> first | rfl | omega) rfl
      | 4, ho =>
        obtain rfl := Option.some.inj ho
        refine V_iload_n (pc := 88) d88 rfl ?_
        refine V_if_eq (pc := 89) d89 (by decide) (by decide) (fun h => absurd h (by decide)) (fun _ => ?_)
        refine V_bipush (pc := 92) (by decide) d92 ?_
        refine V_goto (pc := 94) d94 (by decide) ?_
        refine V_ret (pc := 102) (v := some (zI _)) ⟨d102, _, rfl, rfl⟩ ?_
        exact Qv k (by unfold telF; (repeat' split) <;> first | rfl | omega) rfl
      | 5, ho =>
        obtain rfl := Option.some.inj ho
        refine V_iload_n (pc := 103) d103 rfl ?_
        refine V_if_eq (pc := 104) d104 (by decide) (by decide) (fun h => absurd h (by decide)) (fun _ => ?_)
        refine V_bipush (pc := 107) (by decide) d107 ?_
        refine V_goto (pc := 109) d109 (by decide) ?_
        refine V_ret (pc := 117) (v := some (zI _)) ⟨d117, _, rfl, rfl⟩ ?_
        exact Qv k (by unfold telF; (repeat' split) <;> first | rfl | omega) rfl
      | j + 6, ho => exact absurd ho (by simp)
theorem sof_w {pg hw : Int} (h : 0 ≤ pg ∧ pg ≤ 999) : 0 ≤ sof pg hw ∧ sof pg hw ≤ 1000 := by
  unfold sof
  split <;> omega
theorem c_X8_whyNot {σ : Sto} {now : Int → Int} {P : PT} {T : TT} {Q : Option Value → Sto → Prop} {pg kd hw : Int} (h13 : 0 ≤ now 13 ∧ now 13 ≤ 1000) (hp : 0 ≤ pg ∧ pg ≤ 999) (hk : 0 ≤ kd ∧ kd ≤ 3) (hh : 0 ≤ hw ∧ hw < 16) (k : Q (some (zI (wny now pg kd hw))) (mst σ now P T)) : Con M_X8_whyNot 150 150 (mst σ now P T) [.ref 144, zI pg, zI kd, zI hw] Q := by
  refine V_entry ok_X8_whyNot (Nat.le_refl _) (Nat.le_of_ble_eq_true rfl) (V_ls [(0, .ref 144), (1, zI pg), (2, zI kd), (3, zI hw)] ⟨rfl, rfl, rfl, rfl, trivial⟩ ?_)
  obtain ⟨d0, d1, d2, d5, d6, d7, d8, d9, d12, d14, d15, d16, d19, d20, d23, d25, d26, d27, d28, d31, d32, d35, d37, d38, d40, d41, d42, d43, d46, d47, d50, d51, d52, d55, d56, d59, d61, d62, d65, d66, d69, d71, d73, d76, d77, d80, d81, -⟩ := D_X8_whyNot
  have b2 := ba_2 hw (by omega) (by omega)
  have so := sof_w (hw := hw) hp
  refine V_iload_n (pc := 0) d0 rfl ?_
  refine V_iconst (pc := 1) d1 ?_
  refine V_icmp_ge (pc := 2) d2 (by decide) (by omega) (by decide) (fun h2 => ?_) (fun h2 => ?_)
  · refine V_iload_n (pc := 7) d7 rfl ?_
    refine V_iload_n (pc := 8) d8 rfl ?_
    refine V_cS2 (pc := 9) ca_8_67 d9 (by decide) (Nat.le_of_ble_eq_true rfl) (c_X8_setOf (by omega) (by omega) ?_)
    refine V_istore (pc := 12) d12 (by decide) ?_
    refine V_iload_n (pc := 14) d14 rfl ?_
    refine V_iconst (pc := 15) d15 ?_
    refine V_icmp_ne (pc := 16) d16 (by decide) (by omega) (by decide) (fun h16 => ?_) (fun h16 => ?_)
    · refine V_aload_n (pc := 31) d31 rfl (Or.inl ⟨_, rfl⟩) ?_
      refine V_getR (pc := 32) (q := 0) (j := 145) fx_8_7 d32 rfl rfl (by decide) rfl rfl ?_
      refine V_bipush (pc := 35) (by decide) d35 ?_
      refine Vm_now (pc := 37) d37 (by decide) ?_
      refine V_istore (pc := 38) d38 (by decide) ?_
      refine V_iload_n (pc := 40) d40 rfl ?_
      refine V_iconst (pc := 41) d41 ?_
      refine V_iand (pc := 42) d42 ?_
      refine V_if_ne (pc := 43) d43 (by decide) (by omega) (fun h43 => ?_) (fun h43 => ?_)
      · refine V_iload_n (pc := 50) d50 rfl ?_
        refine V_iconst (pc := 51) d51 ?_
        refine V_icmp_ne (pc := 52) d52 (by decide) (by omega) (by decide) (fun h52 => ?_) (fun h52 => ?_)
        · refine V_iload (pc := 59) d59 rfl ?_
          refine V_iconst (pc := 61) d61 ?_
          refine V_icmp_ne (pc := 62) d62 (by decide) (by omega) (by decide) (fun h62 => ?_) (fun h62 => ?_)
          · refine V_iload (pc := 69) d69 rfl ?_
            refine V_iload (pc := 71) d71 rfl ?_
            refine V_icmp_le (pc := 73) d73 (by decide) (by omega) (by omega) (fun h73 => ?_) (fun h73 => ?_)
            · refine V_iconst (pc := 80) d80 ?_
              refine V_ret (pc := 81) (v := some (zI _)) ⟨d81, _, rfl, rfl⟩ ?_
              exact Qv k (by unfold wny; (repeat' split) <;> omega) rfl
            · refine V_iconst (pc := 76) d76 ?_
              refine V_goto (pc := 77) d77 (by decide) ?_
              refine V_ret (pc := 81) (v := some (zI _)) ⟨d81, _, rfl, rfl⟩ ?_
              exact Qv k (by unfold wny; (repeat' split) <;> omega) rfl
          · refine V_iconst (pc := 65) d65 ?_
            refine V_goto (pc := 66) d66 (by decide) ?_
            refine V_ret (pc := 81) (v := some (zI _)) ⟨d81, _, rfl, rfl⟩ ?_
            exact Qv k (by unfold wny; (repeat' split) <;> omega) rfl
        · refine V_iconst (pc := 55) d55 ?_
          refine V_goto (pc := 56) d56 (by decide) ?_
          refine V_ret (pc := 81) (v := some (zI _)) ⟨d81, _, rfl, rfl⟩ ?_
          exact Qv k (by unfold wny; (repeat' split) <;> omega) rfl
      · refine V_iconst (pc := 46) d46 ?_
        refine V_goto (pc := 47) d47 (by decide) ?_
        refine V_ret (pc := 81) (v := some (zI _)) ⟨d81, _, rfl, rfl⟩ ?_
        exact Qv k (by unfold wny; (repeat' split) <;> omega) rfl
    · refine V_aload_n (pc := 19) d19 rfl (Or.inl ⟨_, rfl⟩) ?_
      refine V_getR (pc := 20) (q := 0) (j := 145) fx_8_7 d20 rfl rfl (by decide) rfl rfl ?_
      refine V_bipush (pc := 23) (by decide) d23 ?_
      refine Vm_now (pc := 25) d25 (by decide) ?_
      refine V_iconst (pc := 26) d26 ?_
      refine V_idiv (pc := 27) d27 (by omega) (by decide) ?_
      refine V_goto (pc := 28) d28 (by decide) ?_
      refine V_istore (pc := 38) d38 (by decide) ?_
      refine V_iload_n (pc := 40) d40 rfl ?_
      refine V_iconst (pc := 41) d41 ?_
      refine V_iand (pc := 42) d42 ?_
      refine V_if_ne (pc := 43) d43 (by decide) (by omega) (fun h43 => ?_) (fun h43 => ?_)
      · refine V_iload_n (pc := 50) d50 rfl ?_
        refine V_iconst (pc := 51) d51 ?_
        refine V_icmp_ne (pc := 52) d52 (by decide) (by omega) (by decide) (fun h52 => ?_) (fun h52 => ?_)
        · refine V_iload (pc := 59) d59 rfl ?_
          refine V_iconst (pc := 61) d61 ?_
          refine V_icmp_ne (pc := 62) d62 (by decide) (by omega) (by decide) (fun h62 => ?_) (fun h62 => ?_)
          · refine V_iload (pc := 69) d69 rfl ?_
            refine V_iload (pc := 71) d71 rfl ?_
            refine V_icmp_le (pc := 73) d73 (by decide) (by omega) (by omega) (fun h73 => ?_) (fun h73 => ?_)
            · refine V_iconst (pc := 80) d80 ?_
              refine V_ret (pc := 81) (v := some (zI _)) ⟨d81, _, rfl, rfl⟩ ?_
              exact Qv k (by unfold wny; (repeat' split) <;> omega) rfl
            · refine V_iconst (pc := 76) d76 ?_
              refine V_goto (pc := 77) d77 (by decide) ?_
              refine V_ret (pc := 81) (v := some (zI _)) ⟨d81, _, rfl, rfl⟩ ?_
              exact Qv k (by unfold wny; (repeat' split) <;> omega) rfl
          · refine V_iconst (pc := 65) d65 ?_
            refine V_goto (pc := 66) d66 (by decide) ?_
            refine V_ret (pc := 81) (v := some (zI _)) ⟨d81, _, rfl, rfl⟩ ?_
            exact Qv k (by unfold wny; (repeat' split) <;> omega) rfl
        · refine V_iconst (pc := 55) d55 ?_
          refine V_goto (pc := 56) d56 (by decide) ?_
          refine V_ret (pc := 81) (v := some (zI _)) ⟨d81, _, rfl, rfl⟩ ?_
          exact Qv k (by unfold wny; (repeat' split) <;> omega) rfl
      · refine V_iconst (pc := 46) d46 ?_
        refine V_goto (pc := 47) d47 (by decide) ?_
        refine V_ret (pc := 81) (v := some (zI _)) ⟨d81, _, rfl, rfl⟩ ?_
        exact Qv k (by unfold wny; (repeat' split) <;> omega) rfl
  · refine V_iconst (pc := 5) d5 ?_
    refine V_ret (pc := 6) (v := some (zI _)) ⟨d6, _, rfl, rfl⟩ ?_
    exact Qv k (by unfold wny; (repeat' split) <;> omega) rfl
theorem L_X8_placeOf {σ : Sto} {now : Int → Int} {P : PT} {T : TT} {Q : Option Value → Sto → Prop} {j : Int} (hj : -2147483648 ≤ j ∧ j < 2147483648) (hR : RR now) (k : Q (some (zI (plc now j))) (mst σ now P T)) : ∀ n : Nat, n ≤ (now 0).toNat → (∀ i : Int, 0 ≤ i → i < (n : Int) → ¬ jf now i 0 = j) → V M_X8_placeOf 150 2 [(0, .ref 144), (1, zI j), (2, zI (n : Int))] [] 150 (mst σ now P T) Q := by
  refine loop_nat ((now 0).toNat) (fun n hn ih => ?_)
  intro hv
  obtain ⟨d0, d1, d2, d3, d4, d7, d8, d9, d12, d13, d14, d15, d18, d19, d22, d23, d24, d27, d30, d31, -⟩ := D_X8_placeOf
  have h0 := hR.2.1
  refine V_iload_n (pc := 2) d2 rfl ?_
  refine V_aload_n (pc := 3) d3 rfl (Or.inl ⟨_, rfl⟩) ?_
  refine V_getR (pc := 4) (q := 0) (j := 145) fx_8_7 d4 rfl rfl (by decide) rfl rfl ?_
  refine V_iconst (pc := 7) d7 ?_
  refine Vm_now (pc := 8) d8 (by decide) ?_
  refine V_icmp_ge (pc := 9) d9 (by decide) (by omega) (by omega) (fun h9 => ?_) (fun h9 => ?_)
  · refine V_iconst (pc := 30) d30 ?_
    refine V_ret (pc := 31) (v := some (zI _)) ⟨d31, _, rfl, rfl⟩ ?_
    exact Qv k (plc_no (fun i a c => hv i a (by omega))) rfl
  · have hJ := hR.2.2.2 (n : Int) (by omega) (by omega)
    have jj := hJ
    unfold JB at jj
    refine V_aload_n (pc := 12) d12 rfl (Or.inl ⟨_, rfl⟩) ?_
    refine V_iload_n (pc := 13) d13 rfl ?_
    refine V_iconst (pc := 14) d14 ?_
    refine V_cV2 (pc := 15) ca_8_64 d15 (by decide) (Nat.le_of_ble_eq_true rfl) (by decide) rfl (by decide) (c_X8_of (by omega) ?_)
    refine V_iload_n (pc := 18) d18 rfl ?_
    refine V_icmp_ne (pc := 19) d19 (by decide) (by omega) (by omega) (fun h19 => ?_) (fun h19 => ?_)
    · refine V_iinc (pc := 24) d24 rfl (by decide) ?_
      refine V_goto (pc := 27) d27 (by decide) ?_
      exact V_lq [(0, .ref 144), (1, zI j), (2, zI ((n + 1 : Nat) : Int))] ⟨⟨_, rfl, rfl⟩, ⟨_, rfl, rfl⟩, ⟨_, rfl, rfl⟩, trivial⟩ (ih (by omega) (fun i a c => by
        by_cases z : i = (n : Int)
        · rw [z]; exact h19
        · exact hv i a (by omega)))
    · refine V_iload_n (pc := 22) d22 rfl ?_
      refine V_ret (pc := 23) (v := some (zI _)) ⟨d23, _, rfl, rfl⟩ ?_
      exact Qv k (plc_at (by omega) (by omega) h19 hv) rfl
theorem c_X8_placeOf {σ : Sto} {now : Int → Int} {P : PT} {T : TT} {Q : Option Value → Sto → Prop} {j : Int} (hj : -2147483648 ≤ j ∧ j < 2147483648) (hR : RR now) (k : Q (some (zI (plc now j))) (mst σ now P T)) : Con M_X8_placeOf 150 150 (mst σ now P T) [.ref 144, zI j] Q := by
  refine V_entry ok_X8_placeOf (Nat.le_refl _) (Nat.le_of_ble_eq_true rfl) (V_ls [(0, .ref 144), (1, zI j)] ⟨rfl, rfl, trivial⟩ ?_)
  obtain ⟨d0, d1, d2, d3, d4, d7, d8, d9, d12, d13, d14, d15, d18, d19, d22, d23, d24, d27, d30, d31, -⟩ := D_X8_placeOf
  refine V_iconst (pc := 0) d0 ?_
  refine V_istore_n (pc := 1) d1 (by decide) ?_
  exact V_lq [(0, .ref 144), (1, zI j), (2, zI ((0 : Nat) : Int))] ⟨⟨_, rfl, rfl⟩, ⟨_, rfl, rfl⟩, ⟨_, rfl, rfl⟩, trivial⟩ (L_X8_placeOf hj hR k 0 (by omega) (fun i a c => absurd c (by omega)))
theorem L_X8_nextJob {σ : Sto} {now : Int → Int} {P : PT} {T : TT} {Q : Option Value → Sto → Prop} (hR : RR now) (k : Q (some (zI (nxj now))) (mst σ now P T)) : ∀ n : Nat, n ≤ (now 0).toNat → V M_X8_nextJob 150 4 [(0, .ref 144), (1, zI (nxF now n)), (2, zI (n : Int))] [] 150 (mst σ now P T) Q := by
  refine loop_nat ((now 0).toNat) (fun n hn ih => ?_)
  obtain ⟨d0, d1, d2, d3, d4, d5, d6, d9, d10, d11, d14, d15, d16, d18, d21, d24, d25, d28, d29, d30, d31, d34, d37, d38, d41, d42, d43, d46, d49, d50, -⟩ := D_X8_nextJob
  have h0 := hR.2.1
  have g7 := hR.1 7 (by decide) (by decide) (by decide)
  have f := nxF_rg now n
  refine V_iload_n (pc := 4) d4 rfl ?_
  refine V_aload_n (pc := 5) d5 rfl (Or.inl ⟨_, rfl⟩) ?_
  refine V_getR (pc := 6) (q := 0) (j := 145) fx_8_7 d6 rfl rfl (by decide) rfl rfl ?_
  refine V_iconst (pc := 9) d9 ?_
  refine Vm_now (pc := 10) d10 (by decide) ?_
  refine V_icmp_ge (pc := 11) d11 (by decide) (by omega) (by omega) (fun h11 => ?_) (fun h11 => ?_)
  · refine V_iload_n (pc := 49) d49 rfl ?_
    refine V_ret (pc := 50) (v := some (zI _)) ⟨d50, _, rfl, rfl⟩ ?_
    exact Qv k (by unfold nxj; rw [show n = (now 0).toNat by omega]) rfl
  · have hJ := hR.2.2.2 (n : Int) (by omega) (by omega)
    have jj := hJ
    unfold JB at jj
    refine V_aload_n (pc := 14) d14 rfl (Or.inl ⟨_, rfl⟩) ?_
    refine V_iload_n (pc := 15) d15 rfl ?_
    refine V_bipush (pc := 16) (by decide) d16 ?_
    refine V_cV2 (pc := 18) ca_8_64 d18 (by decide) (Nat.le_of_ble_eq_true rfl) (by decide) rfl (by decide) (c_X8_of (by omega) ?_)
    refine V_if_ne (pc := 21) d21 (by decide) (by omega) (fun h21 => ?_) (fun h21 => ?_)
    · refine V_iload_n (pc := 41) d41 rfl ?_
      refine V_istore_n (pc := 42) d42 (by decide) ?_
      refine V_iinc (pc := 43) d43 rfl (by decide) ?_
      refine V_goto (pc := 46) d46 (by decide) ?_
      exact V_lq [(0, .ref 144), (1, zI (nxF now (n + 1))), (2, zI ((n + 1 : Nat) : Int))] ⟨⟨_, rfl, rfl⟩, ⟨_, rfl, congrArg (fun e : Int => zI e) (by (show _ = (if jf now (n : Int) 7 = 0 ∧ (nxF now n < 0 ∨ ahd now (n : Int) (nxF now n)) then (n : Int) else nxF now n); split <;> first | rfl | omega))⟩, ⟨_, rfl, rfl⟩, trivial⟩ (ih (by omega))
    · refine V_iload_n (pc := 24) d24 rfl ?_
      refine V_if_lt (pc := 25) d25 (by decide) (by omega) (fun h25 => ?_) (fun h25 => ?_)
      · refine V_iload_n (pc := 37) d37 rfl ?_
        refine V_goto (pc := 38) d38 (by decide) ?_
        refine V_istore_n (pc := 42) d42 (by decide) ?_
        refine V_iinc (pc := 43) d43 rfl (by decide) ?_
        refine V_goto (pc := 46) d46 (by decide) ?_
        exact V_lq [(0, .ref 144), (1, zI (nxF now (n + 1))), (2, zI ((n + 1 : Nat) : Int))] ⟨⟨_, rfl, rfl⟩, ⟨_, rfl, congrArg (fun e : Int => zI e) (by (show _ = (if jf now (n : Int) 7 = 0 ∧ (nxF now n < 0 ∨ ahd now (n : Int) (nxF now n)) then (n : Int) else nxF now n); split <;> first | rfl | omega))⟩, ⟨_, rfl, rfl⟩, trivial⟩ (ih (by omega))
      · have hK := hR.2.2.2 (nxF now n) (by omega) (by omega)
        refine V_aload_n (pc := 28) d28 rfl (Or.inl ⟨_, rfl⟩) ?_
        refine V_iload_n (pc := 29) d29 rfl ?_
        refine V_iload_n (pc := 30) d30 rfl ?_
        refine V_cV2 (pc := 31) ca_8_115 d31 (by decide) (Nat.le_of_ble_eq_true rfl) (by decide) rfl (by decide) (c_X8_isAhead g7 (by assumption) (by assumption) (fun h_ia => ?_) (fun h_ia => ?_))
        · refine V_if_eq (pc := 34) d34 (by decide) (by decide) (fun h => absurd h (by decide)) (fun _ => ?_)
          refine V_iload_n (pc := 37) d37 rfl ?_
          refine V_goto (pc := 38) d38 (by decide) ?_
          refine V_istore_n (pc := 42) d42 (by decide) ?_
          refine V_iinc (pc := 43) d43 rfl (by decide) ?_
          refine V_goto (pc := 46) d46 (by decide) ?_
          exact V_lq [(0, .ref 144), (1, zI (nxF now (n + 1))), (2, zI ((n + 1 : Nat) : Int))] ⟨⟨_, rfl, rfl⟩, ⟨_, rfl, congrArg (fun e : Int => zI e) (by (show _ = (if jf now (n : Int) 7 = 0 ∧ (nxF now n < 0 ∨ ahd now (n : Int) (nxF now n)) then (n : Int) else nxF now n); split <;> first | rfl | omega))⟩, ⟨_, rfl, rfl⟩, trivial⟩ (ih (by omega))
        · refine V_if_eq (pc := 34) d34 (by decide) (by decide) (fun _ => ?_) (fun h => absurd (by decide) h)
          refine V_iload_n (pc := 41) d41 rfl ?_
          refine V_istore_n (pc := 42) d42 (by decide) ?_
          refine V_iinc (pc := 43) d43 rfl (by decide) ?_
          refine V_goto (pc := 46) d46 (by decide) ?_
          exact V_lq [(0, .ref 144), (1, zI (nxF now (n + 1))), (2, zI ((n + 1 : Nat) : Int))] ⟨⟨_, rfl, rfl⟩, ⟨_, rfl, congrArg (fun e : Int => zI e) (by (show _ = (if jf now (n : Int) 7 = 0 ∧ (nxF now n < 0 ∨ ahd now (n : Int) (nxF now n)) then (n : Int) else nxF now n); split <;> first | rfl | omega))⟩, ⟨_, rfl, rfl⟩, trivial⟩ (ih (by omega))
theorem c_X8_nextJob {σ : Sto} {now : Int → Int} {P : PT} {T : TT} {Q : Option Value → Sto → Prop} (hR : RR now) (k : Q (some (zI (nxj now))) (mst σ now P T)) : Con M_X8_nextJob 150 150 (mst σ now P T) [.ref 144] Q := by
  refine V_entry ok_X8_nextJob (Nat.le_refl _) (Nat.le_of_ble_eq_true rfl) (V_ls [(0, .ref 144)] ⟨rfl, trivial⟩ ?_)
  obtain ⟨d0, d1, d2, d3, d4, d5, d6, d9, d10, d11, d14, d15, d16, d18, d21, d24, d25, d28, d29, d30, d31, d34, d37, d38, d41, d42, d43, d46, d49, d50, -⟩ := D_X8_nextJob
  refine V_iconst (pc := 0) d0 ?_
  refine V_istore_n (pc := 1) d1 (by decide) ?_
  refine V_iconst (pc := 2) d2 ?_
  refine V_istore_n (pc := 3) d3 (by decide) ?_
  exact V_lq [(0, .ref 144), (1, zI (nxF now 0)), (2, zI ((0 : Nat) : Int))] ⟨⟨_, rfl, rfl⟩, ⟨_, rfl, rfl⟩, ⟨_, rfl, rfl⟩, trivial⟩ (L_X8_nextJob hR k 0 (by omega))
theorem L_X8_heldOnes {σ : Sto} {now : Int → Int} {P : PT} {T : TT} {Q : Option Value → Sto → Prop} (hR : RR now) (k : Q (some (zI (hdN now (now 0).toNat))) (mst σ now P T)) : ∀ n : Nat, n ≤ (now 0).toNat → V M_X8_heldOnes 150 4 [(0, .ref 144), (1, zI (hdN now n)), (2, zI (n : Int))] [] 150 (mst σ now P T) Q := by
  refine loop_nat ((now 0).toNat) (fun n hn ih => ?_)
  obtain ⟨d0, d1, d2, d3, d4, d5, d6, d9, d10, d11, d14, d15, d16, d17, d19, d22, d23, d24, d27, d30, d31, -⟩ := D_X8_heldOnes
  have h0 := hR.2.1
  refine V_iload_n (pc := 4) d4 rfl ?_
  refine V_aload_n (pc := 5) d5 rfl (Or.inl ⟨_, rfl⟩) ?_
  refine V_getR (pc := 6) (q := 0) (j := 145) fx_8_7 d6 rfl rfl (by decide) rfl rfl ?_
  refine V_iconst (pc := 9) d9 ?_
  refine Vm_now (pc := 10) d10 (by decide) ?_
  refine V_icmp_ge (pc := 11) d11 (by decide) (by omega) (by omega) (fun h11 => ?_) (fun h11 => ?_)
  · refine V_iload_n (pc := 30) d30 rfl ?_
    refine V_ret (pc := 31) (v := some (zI _)) ⟨d31, _, rfl, rfl⟩ ?_
    exact Qv k (by rw [show n = (now 0).toNat by omega]) rfl
  · have hJ := hR.2.2.2 (n : Int) (by omega) (by omega)
    have jj := hJ
    unfold JB at jj
    refine V_iload_n (pc := 14) d14 rfl ?_
    refine V_aload_n (pc := 15) d15 rfl (Or.inl ⟨_, rfl⟩) ?_
    refine V_iload_n (pc := 16) d16 rfl ?_
    refine V_bipush (pc := 17) (by decide) d17 ?_
    refine V_cV2 (pc := 19) ca_8_64 d19 (by decide) (Nat.le_of_ble_eq_true rfl) (by decide) rfl (by decide) (c_X8_of (by omega) ?_)
    refine V_iadd (pc := 22) d22 ?_
    refine V_istore_n (pc := 23) d23 (by decide) ?_
    refine V_iinc (pc := 24) d24 rfl (by decide) ?_
    refine V_goto (pc := 27) d27 (by decide) ?_
    exact V_lq [(0, .ref 144), (1, zI (hdN now (n + 1))), (2, zI ((n + 1 : Nat) : Int))] ⟨⟨_, rfl, rfl⟩, ⟨_, rfl, rfl⟩, ⟨_, rfl, rfl⟩, trivial⟩ (ih (by omega))
theorem c_X8_heldOnes {σ : Sto} {now : Int → Int} {P : PT} {T : TT} {Q : Option Value → Sto → Prop} (hR : RR now) (k : Q (some (zI (hdN now (now 0).toNat))) (mst σ now P T)) : Con M_X8_heldOnes 150 150 (mst σ now P T) [.ref 144] Q := by
  refine V_entry ok_X8_heldOnes (Nat.le_refl _) (Nat.le_of_ble_eq_true rfl) (V_ls [(0, .ref 144)] ⟨rfl, trivial⟩ ?_)
  obtain ⟨d0, d1, d2, d3, d4, d5, d6, d9, d10, d11, d14, d15, d16, d17, d19, d22, d23, d24, d27, d30, d31, -⟩ := D_X8_heldOnes
  refine V_iconst (pc := 0) d0 ?_
  refine V_istore_n (pc := 1) d1 (by decide) ?_
  refine V_iconst (pc := 2) d2 ?_
  refine V_istore_n (pc := 3) d3 (by decide) ?_
  exact V_lq [(0, .ref 144), (1, zI (hdN now 0)), (2, zI ((0 : Nat) : Int))] ⟨⟨_, rfl, rfl⟩, ⟨_, rfl, rfl⟩, ⟨_, rfl, rfl⟩, trivial⟩ (L_X8_heldOnes hR k 0 (by omega))
theorem L_X8_queued_i {σ : Sto} {now : Int → Int} {P : PT} {T : TT} {Q : Option Value → Sto → Prop} {p q : Int} (hR : RR now) (hp : 0 ≤ p ∧ p < now 0) (k : V M_X8_queued 150 64 [(0, .ref 144), (1, zI q), (2, zI p), (3, zI (ahN now p (now 0).toNat))] [] 150 (mst σ now P T) Q) : ∀ n : Nat, n ≤ (now 0).toNat → V M_X8_queued 150 23 [(0, .ref 144), (1, zI q), (2, zI p), (3, zI (ahN now p n)), (4, zI (n : Int))] [] 150 (mst σ now P T) Q := by
  refine loop_nat ((now 0).toNat) (fun n hn ih => ?_)
  obtain ⟨d0, d1, d4, d5, d6, d7, d8, d9, d10, d13, d14, d15, d18, d19, d20, d21, d23, d25, d26, d29, d30, d31, d34, d35, d37, d38, d41, d42, d44, d45, d48, d51, d52, d55, d56, d57, d58, d61, d64, d65, d66, d69, d70, d71, d72, d75, d76, d79, d82, d84, -⟩ := D_X8_queued
  have h0 := hR.2.1
  have g7 := hR.1 7 (by decide) (by decide) (by decide)
  have hK := hR.2.2.2 p hp.1 hp.2
  refine V_iload (pc := 23) d23 rfl ?_
  refine V_aload_n (pc := 25) d25 rfl (Or.inl ⟨_, rfl⟩) ?_
  refine V_getR (pc := 26) (q := 0) (j := 145) fx_8_7 d26 rfl rfl (by decide) rfl rfl ?_
  refine V_iconst (pc := 29) d29 ?_
  refine Vm_now (pc := 30) d30 (by decide) ?_
  refine V_icmp_ge (pc := 31) d31 (by decide) (by omega) (by omega) (fun h31 => ?_) (fun h31 => ?_)
  · exact V_lq [(0, .ref 144), (1, zI q), (2, zI p), (3, zI (ahN now p (now 0).toNat))] ⟨⟨_, rfl, rfl⟩, ⟨_, rfl, rfl⟩, ⟨_, rfl, rfl⟩, ⟨_, rfl, congrArg (fun e : Int => zI e) (by rw [show n = (now 0).toNat by omega])⟩, trivial⟩ k
  · have hJ := hR.2.2.2 (n : Int) (by omega) (by omega)
    have jj := hJ
    unfold JB at jj
    refine V_iload_n (pc := 34) d34 rfl ?_
    refine V_iload (pc := 35) d35 rfl ?_
    refine V_iload_n (pc := 37) d37 rfl ?_
    refine V_icmp_eq (pc := 38) d38 (by decide) (by omega) (by omega) (fun h38 => ?_) (fun h38 => ?_)
    · refine V_iconst (pc := 55) d55 ?_
      refine V_iadd (pc := 56) d56 ?_
      refine V_istore_n (pc := 57) d57 (by decide) ?_
      refine V_iinc (pc := 58) d58 rfl (by decide) ?_
      refine V_goto (pc := 61) d61 (by decide) ?_
      exact V_lq [(0, .ref 144), (1, zI q), (2, zI p), (3, zI (ahN now p (n + 1))), (4, zI ((n + 1 : Nat) : Int))] ⟨⟨_, rfl, rfl⟩, ⟨_, rfl, rfl⟩, ⟨_, rfl, rfl⟩, ⟨_, rfl, congrArg (fun e : Int => zI e) (by (show _ = ahN now p n + (if ¬ (n : Int) = p ∧ ahd now (n : Int) p then 1 else 0); split <;> omega))⟩, ⟨_, rfl, rfl⟩, trivial⟩ (ih (by omega))
    · refine V_aload_n (pc := 41) d41 rfl (Or.inl ⟨_, rfl⟩) ?_
      refine V_iload (pc := 42) d42 rfl ?_
      refine V_iload_n (pc := 44) d44 rfl ?_
      refine V_cV2 (pc := 45) ca_8_115 d45 (by decide) (Nat.le_of_ble_eq_true rfl) (by decide) rfl (by decide) (c_X8_isAhead g7 (by assumption) (by assumption) (fun h_ia => ?_) (fun h_ia => ?_))
      · refine V_if_eq (pc := 48) d48 (by decide) (by decide) (fun h => absurd h (by decide)) (fun _ => ?_)
        refine V_iconst (pc := 51) d51 ?_
        refine V_goto (pc := 52) d52 (by decide) ?_
        refine V_iadd (pc := 56) d56 ?_
        refine V_istore_n (pc := 57) d57 (by decide) ?_
        refine V_iinc (pc := 58) d58 rfl (by decide) ?_
        refine V_goto (pc := 61) d61 (by decide) ?_
        exact V_lq [(0, .ref 144), (1, zI q), (2, zI p), (3, zI (ahN now p (n + 1))), (4, zI ((n + 1 : Nat) : Int))] ⟨⟨_, rfl, rfl⟩, ⟨_, rfl, rfl⟩, ⟨_, rfl, rfl⟩, ⟨_, rfl, congrArg (fun e : Int => zI e) (by (show _ = ahN now p n + (if ¬ (n : Int) = p ∧ ahd now (n : Int) p then 1 else 0); split <;> omega))⟩, ⟨_, rfl, rfl⟩, trivial⟩ (ih (by omega))
      · refine V_if_eq (pc := 48) d48 (by decide) (by decide) (fun _ => ?_) (fun h => absurd (by decide) h)
        refine V_iconst (pc := 55) d55 ?_
        refine V_iadd (pc := 56) d56 ?_
        refine V_istore_n (pc := 57) d57 (by decide) ?_
        refine V_iinc (pc := 58) d58 rfl (by decide) ?_
        refine V_goto (pc := 61) d61 (by decide) ?_
        exact V_lq [(0, .ref 144), (1, zI q), (2, zI p), (3, zI (ahN now p (n + 1))), (4, zI ((n + 1 : Nat) : Int))] ⟨⟨_, rfl, rfl⟩, ⟨_, rfl, rfl⟩, ⟨_, rfl, rfl⟩, ⟨_, rfl, congrArg (fun e : Int => zI e) (by (show _ = ahN now p n + (if ¬ (n : Int) = p ∧ ahd now (n : Int) p then 1 else 0); split <;> omega))⟩, ⟨_, rfl, rfl⟩, trivial⟩ (ih (by omega))
theorem L_X8_queued {σ : Sto} {now : Int → Int} {P : PT} {T : TT} {Q : Option Value → Sto → Prop} {q : Int} (hR : RR now) (hq : 0 ≤ q ∧ q < 2147483648)  : ∀ n : Nat, n ≤ (now 0).toNat → Q (some (zI (quF now q ((now 0).toNat - n) n))) (mst σ now P T) → V M_X8_queued 150 8 [(0, .ref 144), (1, zI q), (2, zI (n : Int))] [] 150 (mst σ now P T) Q := by
  refine loop_nat ((now 0).toNat) (fun n hn ih => ?_)
  intro hv
  obtain ⟨d0, d1, d4, d5, d6, d7, d8, d9, d10, d13, d14, d15, d18, d19, d20, d21, d23, d25, d26, d29, d30, d31, d34, d35, d37, d38, d41, d42, d44, d45, d48, d51, d52, d55, d56, d57, d58, d61, d64, d65, d66, d69, d70, d71, d72, d75, d76, d79, d82, d84, -⟩ := D_X8_queued
  have h0 := hR.2.1
  refine V_iload_n (pc := 8) d8 rfl ?_
  refine V_aload_n (pc := 9) d9 rfl (Or.inl ⟨_, rfl⟩) ?_
  refine V_getR (pc := 10) (q := 0) (j := 145) fx_8_7 d10 rfl rfl (by decide) rfl rfl ?_
  refine V_iconst (pc := 13) d13 ?_
  refine Vm_now (pc := 14) d14 (by decide) ?_
  refine V_icmp_ge (pc := 15) d15 (by decide) (by omega) (by omega) (fun h15 => ?_) (fun h15 => ?_)
  · refine V_bipush (pc := 82) (by decide) d82 ?_
    refine V_ret (pc := 84) (v := some (zI _)) ⟨d84, _, rfl, rfl⟩ ?_
    exact Qv hv (by rw [show (now 0).toNat - n = 0 by omega]; rfl) rfl
  · refine V_iconst (pc := 18) d18 ?_
    refine V_istore_n (pc := 19) d19 (by decide) ?_
    refine V_iconst (pc := 20) d20 ?_
    refine V_istore (pc := 21) d21 (by decide) ?_
    refine V_lq [(0, .ref 144), (1, zI q), (2, zI (n : Int)), (3, zI (ahN now (n : Int) 0)), (4, zI ((0 : Nat) : Int))] ⟨⟨_, rfl, rfl⟩, ⟨_, rfl, rfl⟩, ⟨_, rfl, rfl⟩, ⟨_, rfl, rfl⟩, ⟨_, rfl, rfl⟩, trivial⟩ (L_X8_queued_i hR (by omega) ?_ 0 (by omega))
    have f := ahN_rg now (n : Int) (now 0).toNat
    have e : (now 0).toNat - n = ((now 0).toNat - (n + 1)) + 1 := by omega
    refine V_iload_n (pc := 64) d64 rfl ?_
    refine V_iload_n (pc := 65) d65 rfl ?_
    refine V_icmp_ne (pc := 66) d66 (by decide) (by omega) (by omega) (fun h66 => ?_) (fun h66 => ?_)
    · refine V_iinc (pc := 76) d76 rfl (by decide) ?_
      refine V_goto (pc := 79) d79 (by decide) ?_
      exact V_lq [(0, .ref 144), (1, zI q), (2, zI ((n + 1 : Nat) : Int))] ⟨⟨_, rfl, rfl⟩, ⟨_, rfl, rfl⟩, ⟨_, rfl, rfl⟩, trivial⟩ (ih (by omega) (Qv hv (by rw [e, quF, if_neg h66]) rfl))
    · have hJ := hR.2.2.2 (n : Int) (by omega) (by omega)
      have jj := hJ
      unfold JB at jj
      refine V_aload_n (pc := 69) d69 rfl (Or.inl ⟨_, rfl⟩) ?_
      refine V_iload_n (pc := 70) d70 rfl ?_
      refine V_iconst (pc := 71) d71 ?_
      refine V_cV2 (pc := 72) ca_8_64 d72 (by decide) (Nat.le_of_ble_eq_true rfl) (by decide) rfl (by decide) (c_X8_of (by omega) ?_)
      refine V_ret (pc := 75) (v := some (zI _)) ⟨d75, _, rfl, rfl⟩ ?_
      exact Qv hv (by rw [e, quF, if_pos h66]) rfl
theorem c_X8_queued {σ : Sto} {now : Int → Int} {P : PT} {T : TT} {Q : Option Value → Sto → Prop} {q : Int} (hR : RR now) (r_q : -2147483648 ≤ q ∧ q < 2147483648) (k1 : q < 0 → Q (some (zI (-1))) (mst σ now P T)) (k : 0 ≤ q → Q (some (zI (quF now q (now 0).toNat 0))) (mst σ now P T)) : Con M_X8_queued 150 150 (mst σ now P T) [.ref 144, zI q] Q := by
  refine V_entry ok_X8_queued (Nat.le_refl _) (Nat.le_of_ble_eq_true rfl) (V_ls [(0, .ref 144), (1, zI q)] ⟨rfl, rfl, trivial⟩ ?_)
  obtain ⟨d0, d1, d4, d5, d6, d7, d8, d9, d10, d13, d14, d15, d18, d19, d20, d21, d23, d25, d26, d29, d30, d31, d34, d35, d37, d38, d41, d42, d44, d45, d48, d51, d52, d55, d56, d57, d58, d61, d64, d65, d66, d69, d70, d71, d72, d75, d76, d79, d82, d84, -⟩ := D_X8_queued
  refine V_iload_n (pc := 0) d0 rfl ?_
  refine V_if_ge (pc := 1) d1 (by decide) (by omega) (fun h1 => ?_) (fun h1 => ?_)
  · refine V_iconst (pc := 6) d6 ?_
    refine V_istore_n (pc := 7) d7 (by decide) ?_
    exact V_lq [(0, .ref 144), (1, zI q), (2, zI ((0 : Nat) : Int))] ⟨⟨_, rfl, rfl⟩, ⟨_, rfl, rfl⟩, ⟨_, rfl, rfl⟩, trivial⟩ (L_X8_queued hR (by omega) 0 (by omega) (k (by omega)))
  · refine V_iconst (pc := 4) d4 ?_
    refine V_ret (pc := 5) (v := some (zI _)) ⟨d5, _, rfl, rfl⟩ ?_
    exact k1 (by omega)
theorem lkN_rg {r : Int → Int} (hR : RR r) (s q : Int) : ∀ n : Nat, (n : Int) ≤ r 0 → -12000000 - 20000 * (n : Int) ≤ lkN r s q n ∧ lkN r s q n ≤ 12000000 + 20000 * (n : Int)
  | 0, _ => by
    have h := shA_rg hR.1 s q 4 (by omega)
    unfold lkN
    omega
  | n + 1, h => by
    have i := lkN_rg hR s q n (by omega)
    have hJ := hR.2.2.2 (n : Int) (by omega) (by omega)
    have a := als_rg hJ
    have j := hJ
    unfold JB at j
    unfold lkN
    (repeat' split) <;> omega
theorem L_X8_lacking {σ : Sto} {now : Int → Int} {P : PT} {T : TT} {Q : Option Value → Sto → Prop} {s q : Int} (hR : RR now) (r_s : -2147483648 ≤ s ∧ s < 2147483648) (r_q : -2147483648 ≤ q ∧ q < 2147483648) (k : Q (some (zI (if lkN now s q (now 0).toNat < 0 then 0 else lkN now s q (now 0).toNat))) (mst σ now P T)) : ∀ n : Nat, n ≤ (now 0).toNat → V M_X8_lacking 150 21 [(0, .ref 144), (1, zI s), (2, zI q), (3, zI (lkN now s q n)), (4, zI (n : Int))] [] 150 (mst σ now P T) Q := by
  refine loop_nat ((now 0).toNat) (fun n hn ih => ?_)
  obtain ⟨d0, d1, d2, d5, d8, d9, d10, d11, d12, d13, d16, d17, d18, d19, d21, d23, d24, d27, d28, d29, d32, d33, d35, d36, d39, d40, d43, d44, d46, d47, d50, d51, d54, d55, d58, d59, d61, d62, d65, d66, d67, d68, d71, d72, d75, d77, d78, d79, d81, d82, d85, d88, d89, d92, d93, d95, d96, d98, d101, d102, d104, d107, d108, d110, d112, d115, d116, d118, d119, d122, d123, d124, d125, d128, d131, d132, d135, d136, d139, d140, -⟩ := D_X8_lacking
  have h0 := hR.2.1
  have g5 := hR.1 5 (by decide) (by decide) (by decide)
  have g6 := hR.1 6 (by decide) (by decide) (by decide)
  have lr := lkN_rg hR s q n (by omega)
  refine V_iload (pc := 21) d21 rfl ?_
  refine V_aload_n (pc := 23) d23 rfl (Or.inl ⟨_, rfl⟩) ?_
  refine V_getR (pc := 24) (q := 0) (j := 145) fx_8_7 d24 rfl rfl (by decide) rfl rfl ?_
  refine V_iconst (pc := 27) d27 ?_
  refine Vm_now (pc := 28) d28 (by decide) ?_
  refine V_icmp_ge (pc := 29) d29 (by decide) (by omega) (by omega) (fun h29 => ?_) (fun h29 => ?_)
  · refine V_iload_n (pc := 131) d131 rfl ?_
    refine V_if_ge (pc := 132) d132 (by decide) (by omega) (fun h132 => ?_) (fun h132 => ?_)
    · refine V_iload_n (pc := 139) d139 rfl ?_
      refine V_ret (pc := 140) (v := some (zI _)) ⟨d140, _, rfl, rfl⟩ ?_
      obtain rfl : n = (now 0).toNat := by omega
      exact Qv k (by split <;> omega) rfl
    · refine V_iconst (pc := 135) d135 ?_
      refine V_goto (pc := 136) d136 (by decide) ?_
      refine V_ret (pc := 140) (v := some (zI _)) ⟨d140, _, rfl, rfl⟩ ?_
      obtain rfl : n = (now 0).toNat := by omega
      exact Qv k (by split <;> omega) rfl
  · have hJ := hR.2.2.2 (n : Int) (by omega) (by omega)
    have jj := hJ
    unfold JB at jj
    refine V_aload_n (pc := 32) d32 rfl (Or.inl ⟨_, rfl⟩) ?_
    refine V_iload (pc := 33) d33 rfl ?_
    refine V_iconst (pc := 35) d35 ?_
    refine V_cV2 (pc := 36) ca_8_64 d36 (by decide) (Nat.le_of_ble_eq_true rfl) (by decide) rfl (by decide) (c_X8_of (by omega) ?_)
    refine V_iload_n (pc := 39) d39 rfl ?_
    refine V_icmp_ne (pc := 40) d40 (by decide) (by omega) (by omega) (fun h40 => ?_) (fun h40 => ?_)
    · refine V_iconst (pc := 58) d58 ?_
      refine V_istore (pc := 59) d59 (by decide) ?_
      refine V_aload_n (pc := 61) d61 rfl (Or.inl ⟨_, rfl⟩) ?_
      refine V_getR (pc := 62) (q := 0) (j := 145) fx_8_7 d62 rfl rfl (by decide) rfl rfl ?_
      refine V_iconst (pc := 65) d65 ?_
      refine Vm_now (pc := 66) d66 (by decide) ?_
      refine V_iconst (pc := 67) d67 ?_
      refine V_icmp_ne (pc := 68) d68 (by decide) (by omega) (by decide) (fun h68 => ?_) (fun h68 => ?_)
      · refine V_iconst (pc := 92) d92 ?_
        refine V_istore (pc := 93) d93 (by decide) ?_
        refine V_iload_n (pc := 95) d95 rfl ?_
        refine V_iload (pc := 96) d96 rfl ?_
        refine V_if_eq (pc := 98) d98 (by decide) (by decide) (fun _ => ?_) (fun h => absurd (by decide) h)
        refine V_iconst (pc := 122) d122 ?_
        refine V_iadd (pc := 123) d123 ?_
        refine V_istore_n (pc := 124) d124 (by decide) ?_
        refine V_iinc (pc := 125) d125 rfl (by decide) ?_
        refine V_goto (pc := 128) d128 (by decide) ?_
        exact V_lq [(0, .ref 144), (1, zI s), (2, zI q), (3, zI (lkN now s q (n + 1))), (4, zI ((n + 1 : Nat) : Int))] ⟨⟨_, rfl, rfl⟩, ⟨_, rfl, rfl⟩, ⟨_, rfl, rfl⟩, ⟨_, rfl, congrArg (fun e : Int => zI e) (by (show _ = lkN now s q n + (if jf now (n : Int) 3 = s ∧ jf now (n : Int) 4 = q then als now (n : Int) - jf now (n : Int) 8 - (if now 5 = 1 ∧ now 6 = jf now (n : Int) 0 then 1 else 0) else 0); (repeat' split) <;> omega))⟩, ⟨_, rfl, rfl⟩, trivial⟩ (ih (by omega))
      · refine V_aload_n (pc := 71) d71 rfl (Or.inl ⟨_, rfl⟩) ?_
        refine V_getR (pc := 72) (q := 0) (j := 145) fx_8_7 d72 rfl rfl (by decide) rfl rfl ?_
        refine V_bipush (pc := 75) (by decide) d75 ?_
        refine Vm_now (pc := 77) d77 (by decide) ?_
        refine V_aload_n (pc := 78) d78 rfl (Or.inl ⟨_, rfl⟩) ?_
        refine V_iload (pc := 79) d79 rfl ?_
        refine V_iconst (pc := 81) d81 ?_
        refine V_cV2 (pc := 82) ca_8_64 d82 (by decide) (Nat.le_of_ble_eq_true rfl) (by decide) rfl (by decide) (c_X8_of (by omega) ?_)
        refine V_icmp_ne (pc := 85) d85 (by decide) (by omega) (by omega) (fun h85 => ?_) (fun h85 => ?_)
        · refine V_iconst (pc := 92) d92 ?_
          refine V_istore (pc := 93) d93 (by decide) ?_
          refine V_iload_n (pc := 95) d95 rfl ?_
          refine V_iload (pc := 96) d96 rfl ?_
          refine V_if_eq (pc := 98) d98 (by decide) (by decide) (fun _ => ?_) (fun h => absurd (by decide) h)
          refine V_iconst (pc := 122) d122 ?_
          refine V_iadd (pc := 123) d123 ?_
          refine V_istore_n (pc := 124) d124 (by decide) ?_
          refine V_iinc (pc := 125) d125 rfl (by decide) ?_
          refine V_goto (pc := 128) d128 (by decide) ?_
          exact V_lq [(0, .ref 144), (1, zI s), (2, zI q), (3, zI (lkN now s q (n + 1))), (4, zI ((n + 1 : Nat) : Int))] ⟨⟨_, rfl, rfl⟩, ⟨_, rfl, rfl⟩, ⟨_, rfl, rfl⟩, ⟨_, rfl, congrArg (fun e : Int => zI e) (by (show _ = lkN now s q n + (if jf now (n : Int) 3 = s ∧ jf now (n : Int) 4 = q then als now (n : Int) - jf now (n : Int) 8 - (if now 5 = 1 ∧ now 6 = jf now (n : Int) 0 then 1 else 0) else 0); (repeat' split) <;> omega))⟩, ⟨_, rfl, rfl⟩, trivial⟩ (ih (by omega))
        · refine V_iconst (pc := 88) d88 ?_
          refine V_goto (pc := 89) d89 (by decide) ?_
          refine V_istore (pc := 93) d93 (by decide) ?_
          refine V_iload_n (pc := 95) d95 rfl ?_
          refine V_iload (pc := 96) d96 rfl ?_
          refine V_if_eq (pc := 98) d98 (by decide) (by decide) (fun _ => ?_) (fun h => absurd (by decide) h)
          refine V_iconst (pc := 122) d122 ?_
          refine V_iadd (pc := 123) d123 ?_
          refine V_istore_n (pc := 124) d124 (by decide) ?_
          refine V_iinc (pc := 125) d125 rfl (by decide) ?_
          refine V_goto (pc := 128) d128 (by decide) ?_
          exact V_lq [(0, .ref 144), (1, zI s), (2, zI q), (3, zI (lkN now s q (n + 1))), (4, zI ((n + 1 : Nat) : Int))] ⟨⟨_, rfl, rfl⟩, ⟨_, rfl, rfl⟩, ⟨_, rfl, rfl⟩, ⟨_, rfl, congrArg (fun e : Int => zI e) (by (show _ = lkN now s q n + (if jf now (n : Int) 3 = s ∧ jf now (n : Int) 4 = q then als now (n : Int) - jf now (n : Int) 8 - (if now 5 = 1 ∧ now 6 = jf now (n : Int) 0 then 1 else 0) else 0); (repeat' split) <;> omega))⟩, ⟨_, rfl, rfl⟩, trivial⟩ (ih (by omega))
    · refine V_aload_n (pc := 43) d43 rfl (Or.inl ⟨_, rfl⟩) ?_
      refine V_iload (pc := 44) d44 rfl ?_
      refine V_iconst (pc := 46) d46 ?_
      refine V_cV2 (pc := 47) ca_8_64 d47 (by decide) (Nat.le_of_ble_eq_true rfl) (by decide) rfl (by decide) (c_X8_of (by omega) ?_)
      refine V_iload_n (pc := 50) d50 rfl ?_
      refine V_icmp_ne (pc := 51) d51 (by decide) (by omega) (by omega) (fun h51 => ?_) (fun h51 => ?_)
      · refine V_iconst (pc := 58) d58 ?_
        refine V_istore (pc := 59) d59 (by decide) ?_
        refine V_aload_n (pc := 61) d61 rfl (Or.inl ⟨_, rfl⟩) ?_
        refine V_getR (pc := 62) (q := 0) (j := 145) fx_8_7 d62 rfl rfl (by decide) rfl rfl ?_
        refine V_iconst (pc := 65) d65 ?_
        refine Vm_now (pc := 66) d66 (by decide) ?_
        refine V_iconst (pc := 67) d67 ?_
        refine V_icmp_ne (pc := 68) d68 (by decide) (by omega) (by decide) (fun h68 => ?_) (fun h68 => ?_)
        · refine V_iconst (pc := 92) d92 ?_
          refine V_istore (pc := 93) d93 (by decide) ?_
          refine V_iload_n (pc := 95) d95 rfl ?_
          refine V_iload (pc := 96) d96 rfl ?_
          refine V_if_eq (pc := 98) d98 (by decide) (by decide) (fun _ => ?_) (fun h => absurd (by decide) h)
          refine V_iconst (pc := 122) d122 ?_
          refine V_iadd (pc := 123) d123 ?_
          refine V_istore_n (pc := 124) d124 (by decide) ?_
          refine V_iinc (pc := 125) d125 rfl (by decide) ?_
          refine V_goto (pc := 128) d128 (by decide) ?_
          exact V_lq [(0, .ref 144), (1, zI s), (2, zI q), (3, zI (lkN now s q (n + 1))), (4, zI ((n + 1 : Nat) : Int))] ⟨⟨_, rfl, rfl⟩, ⟨_, rfl, rfl⟩, ⟨_, rfl, rfl⟩, ⟨_, rfl, congrArg (fun e : Int => zI e) (by (show _ = lkN now s q n + (if jf now (n : Int) 3 = s ∧ jf now (n : Int) 4 = q then als now (n : Int) - jf now (n : Int) 8 - (if now 5 = 1 ∧ now 6 = jf now (n : Int) 0 then 1 else 0) else 0); (repeat' split) <;> omega))⟩, ⟨_, rfl, rfl⟩, trivial⟩ (ih (by omega))
        · refine V_aload_n (pc := 71) d71 rfl (Or.inl ⟨_, rfl⟩) ?_
          refine V_getR (pc := 72) (q := 0) (j := 145) fx_8_7 d72 rfl rfl (by decide) rfl rfl ?_
          refine V_bipush (pc := 75) (by decide) d75 ?_
          refine Vm_now (pc := 77) d77 (by decide) ?_
          refine V_aload_n (pc := 78) d78 rfl (Or.inl ⟨_, rfl⟩) ?_
          refine V_iload (pc := 79) d79 rfl ?_
          refine V_iconst (pc := 81) d81 ?_
          refine V_cV2 (pc := 82) ca_8_64 d82 (by decide) (Nat.le_of_ble_eq_true rfl) (by decide) rfl (by decide) (c_X8_of (by omega) ?_)
          refine V_icmp_ne (pc := 85) d85 (by decide) (by omega) (by omega) (fun h85 => ?_) (fun h85 => ?_)
          · refine V_iconst (pc := 92) d92 ?_
            refine V_istore (pc := 93) d93 (by decide) ?_
            refine V_iload_n (pc := 95) d95 rfl ?_
            refine V_iload (pc := 96) d96 rfl ?_
            refine V_if_eq (pc := 98) d98 (by decide) (by decide) (fun _ => ?_) (fun h => absurd (by decide) h)
            refine V_iconst (pc := 122) d122 ?_
            refine V_iadd (pc := 123) d123 ?_
            refine V_istore_n (pc := 124) d124 (by decide) ?_
            refine V_iinc (pc := 125) d125 rfl (by decide) ?_
            refine V_goto (pc := 128) d128 (by decide) ?_
            exact V_lq [(0, .ref 144), (1, zI s), (2, zI q), (3, zI (lkN now s q (n + 1))), (4, zI ((n + 1 : Nat) : Int))] ⟨⟨_, rfl, rfl⟩, ⟨_, rfl, rfl⟩, ⟨_, rfl, rfl⟩, ⟨_, rfl, congrArg (fun e : Int => zI e) (by (show _ = lkN now s q n + (if jf now (n : Int) 3 = s ∧ jf now (n : Int) 4 = q then als now (n : Int) - jf now (n : Int) 8 - (if now 5 = 1 ∧ now 6 = jf now (n : Int) 0 then 1 else 0) else 0); (repeat' split) <;> omega))⟩, ⟨_, rfl, rfl⟩, trivial⟩ (ih (by omega))
          · refine V_iconst (pc := 88) d88 ?_
            refine V_goto (pc := 89) d89 (by decide) ?_
            refine V_istore (pc := 93) d93 (by decide) ?_
            refine V_iload_n (pc := 95) d95 rfl ?_
            refine V_iload (pc := 96) d96 rfl ?_
            refine V_if_eq (pc := 98) d98 (by decide) (by decide) (fun _ => ?_) (fun h => absurd (by decide) h)
            refine V_iconst (pc := 122) d122 ?_
            refine V_iadd (pc := 123) d123 ?_
            refine V_istore_n (pc := 124) d124 (by decide) ?_
            refine V_iinc (pc := 125) d125 rfl (by decide) ?_
            refine V_goto (pc := 128) d128 (by decide) ?_
            exact V_lq [(0, .ref 144), (1, zI s), (2, zI q), (3, zI (lkN now s q (n + 1))), (4, zI ((n + 1 : Nat) : Int))] ⟨⟨_, rfl, rfl⟩, ⟨_, rfl, rfl⟩, ⟨_, rfl, rfl⟩, ⟨_, rfl, congrArg (fun e : Int => zI e) (by (show _ = lkN now s q n + (if jf now (n : Int) 3 = s ∧ jf now (n : Int) 4 = q then als now (n : Int) - jf now (n : Int) 8 - (if now 5 = 1 ∧ now 6 = jf now (n : Int) 0 then 1 else 0) else 0); (repeat' split) <;> omega))⟩, ⟨_, rfl, rfl⟩, trivial⟩ (ih (by omega))
      · refine V_iconst (pc := 54) d54 ?_
        refine V_goto (pc := 55) d55 (by decide) ?_
        refine V_istore (pc := 59) d59 (by decide) ?_
        refine V_aload_n (pc := 61) d61 rfl (Or.inl ⟨_, rfl⟩) ?_
        refine V_getR (pc := 62) (q := 0) (j := 145) fx_8_7 d62 rfl rfl (by decide) rfl rfl ?_
        refine V_iconst (pc := 65) d65 ?_
        refine Vm_now (pc := 66) d66 (by decide) ?_
        refine V_iconst (pc := 67) d67 ?_
        refine V_icmp_ne (pc := 68) d68 (by decide) (by omega) (by decide) (fun h68 => ?_) (fun h68 => ?_)
        · refine V_iconst (pc := 92) d92 ?_
          refine V_istore (pc := 93) d93 (by decide) ?_
          refine V_iload_n (pc := 95) d95 rfl ?_
          refine V_iload (pc := 96) d96 rfl ?_
          refine V_if_eq (pc := 98) d98 (by decide) (by decide) (fun h => absurd h (by decide)) (fun _ => ?_)
          refine V_aload_n (pc := 101) d101 rfl (Or.inl ⟨_, rfl⟩) ?_
          refine V_iload (pc := 102) d102 rfl ?_
          refine V_cV1 (pc := 104) ca_8_103 d104 (by decide) (Nat.le_of_ble_eq_true rfl) (by decide) rfl (by decide) (c_X8_allSheets (by assumption) ?_)
          refine V_aload_n (pc := 107) d107 rfl (Or.inl ⟨_, rfl⟩) ?_
          refine V_iload (pc := 108) d108 rfl ?_
          refine V_bipush (pc := 110) (by decide) d110 ?_
          refine V_cV2 (pc := 112) ca_8_64 d112 (by decide) (Nat.le_of_ble_eq_true rfl) (by decide) rfl (by decide) (c_X8_of (by omega) ?_)
          refine V_isub (pc := 115) d115 ?_
          refine V_iload (pc := 116) d116 rfl ?_
          refine V_isub (pc := 118) d118 ?_
          refine V_goto (pc := 119) d119 (by decide) ?_
          refine V_iadd (pc := 123) d123 ?_
          refine V_istore_n (pc := 124) d124 (by decide) ?_
          refine V_iinc (pc := 125) d125 rfl (by decide) ?_
          refine V_goto (pc := 128) d128 (by decide) ?_
          exact V_lq [(0, .ref 144), (1, zI s), (2, zI q), (3, zI (lkN now s q (n + 1))), (4, zI ((n + 1 : Nat) : Int))] ⟨⟨_, rfl, rfl⟩, ⟨_, rfl, rfl⟩, ⟨_, rfl, rfl⟩, ⟨_, rfl, congrArg (fun e : Int => zI e) (by (show _ = lkN now s q n + (if jf now (n : Int) 3 = s ∧ jf now (n : Int) 4 = q then als now (n : Int) - jf now (n : Int) 8 - (if now 5 = 1 ∧ now 6 = jf now (n : Int) 0 then 1 else 0) else 0); (repeat' split) <;> omega))⟩, ⟨_, rfl, rfl⟩, trivial⟩ (ih (by omega))
        · refine V_aload_n (pc := 71) d71 rfl (Or.inl ⟨_, rfl⟩) ?_
          refine V_getR (pc := 72) (q := 0) (j := 145) fx_8_7 d72 rfl rfl (by decide) rfl rfl ?_
          refine V_bipush (pc := 75) (by decide) d75 ?_
          refine Vm_now (pc := 77) d77 (by decide) ?_
          refine V_aload_n (pc := 78) d78 rfl (Or.inl ⟨_, rfl⟩) ?_
          refine V_iload (pc := 79) d79 rfl ?_
          refine V_iconst (pc := 81) d81 ?_
          refine V_cV2 (pc := 82) ca_8_64 d82 (by decide) (Nat.le_of_ble_eq_true rfl) (by decide) rfl (by decide) (c_X8_of (by omega) ?_)
          refine V_icmp_ne (pc := 85) d85 (by decide) (by omega) (by omega) (fun h85 => ?_) (fun h85 => ?_)
          · refine V_iconst (pc := 92) d92 ?_
            refine V_istore (pc := 93) d93 (by decide) ?_
            refine V_iload_n (pc := 95) d95 rfl ?_
            refine V_iload (pc := 96) d96 rfl ?_
            refine V_if_eq (pc := 98) d98 (by decide) (by decide) (fun h => absurd h (by decide)) (fun _ => ?_)
            refine V_aload_n (pc := 101) d101 rfl (Or.inl ⟨_, rfl⟩) ?_
            refine V_iload (pc := 102) d102 rfl ?_
            refine V_cV1 (pc := 104) ca_8_103 d104 (by decide) (Nat.le_of_ble_eq_true rfl) (by decide) rfl (by decide) (c_X8_allSheets (by assumption) ?_)
            refine V_aload_n (pc := 107) d107 rfl (Or.inl ⟨_, rfl⟩) ?_
            refine V_iload (pc := 108) d108 rfl ?_
            refine V_bipush (pc := 110) (by decide) d110 ?_
            refine V_cV2 (pc := 112) ca_8_64 d112 (by decide) (Nat.le_of_ble_eq_true rfl) (by decide) rfl (by decide) (c_X8_of (by omega) ?_)
            refine V_isub (pc := 115) d115 ?_
            refine V_iload (pc := 116) d116 rfl ?_
            refine V_isub (pc := 118) d118 ?_
            refine V_goto (pc := 119) d119 (by decide) ?_
            refine V_iadd (pc := 123) d123 ?_
            refine V_istore_n (pc := 124) d124 (by decide) ?_
            refine V_iinc (pc := 125) d125 rfl (by decide) ?_
            refine V_goto (pc := 128) d128 (by decide) ?_
            exact V_lq [(0, .ref 144), (1, zI s), (2, zI q), (3, zI (lkN now s q (n + 1))), (4, zI ((n + 1 : Nat) : Int))] ⟨⟨_, rfl, rfl⟩, ⟨_, rfl, rfl⟩, ⟨_, rfl, rfl⟩, ⟨_, rfl, congrArg (fun e : Int => zI e) (by (show _ = lkN now s q n + (if jf now (n : Int) 3 = s ∧ jf now (n : Int) 4 = q then als now (n : Int) - jf now (n : Int) 8 - (if now 5 = 1 ∧ now 6 = jf now (n : Int) 0 then 1 else 0) else 0); (repeat' split) <;> omega))⟩, ⟨_, rfl, rfl⟩, trivial⟩ (ih (by omega))
          · refine V_iconst (pc := 88) d88 ?_
            refine V_goto (pc := 89) d89 (by decide) ?_
            refine V_istore (pc := 93) d93 (by decide) ?_
            refine V_iload_n (pc := 95) d95 rfl ?_
            refine V_iload (pc := 96) d96 rfl ?_
            refine V_if_eq (pc := 98) d98 (by decide) (by decide) (fun h => absurd h (by decide)) (fun _ => ?_)
            refine V_aload_n (pc := 101) d101 rfl (Or.inl ⟨_, rfl⟩) ?_
            refine V_iload (pc := 102) d102 rfl ?_
            refine V_cV1 (pc := 104) ca_8_103 d104 (by decide) (Nat.le_of_ble_eq_true rfl) (by decide) rfl (by decide) (c_X8_allSheets (by assumption) ?_)
            refine V_aload_n (pc := 107) d107 rfl (Or.inl ⟨_, rfl⟩) ?_
            refine V_iload (pc := 108) d108 rfl ?_
            refine V_bipush (pc := 110) (by decide) d110 ?_
            refine V_cV2 (pc := 112) ca_8_64 d112 (by decide) (Nat.le_of_ble_eq_true rfl) (by decide) rfl (by decide) (c_X8_of (by omega) ?_)
            refine V_isub (pc := 115) d115 ?_
            refine V_iload (pc := 116) d116 rfl ?_
            refine V_isub (pc := 118) d118 ?_
            refine V_goto (pc := 119) d119 (by decide) ?_
            refine V_iadd (pc := 123) d123 ?_
            refine V_istore_n (pc := 124) d124 (by decide) ?_
            refine V_iinc (pc := 125) d125 rfl (by decide) ?_
            refine V_goto (pc := 128) d128 (by decide) ?_
            exact V_lq [(0, .ref 144), (1, zI s), (2, zI q), (3, zI (lkN now s q (n + 1))), (4, zI ((n + 1 : Nat) : Int))] ⟨⟨_, rfl, rfl⟩, ⟨_, rfl, rfl⟩, ⟨_, rfl, rfl⟩, ⟨_, rfl, congrArg (fun e : Int => zI e) (by (show _ = lkN now s q n + (if jf now (n : Int) 3 = s ∧ jf now (n : Int) 4 = q then als now (n : Int) - jf now (n : Int) 8 - (if now 5 = 1 ∧ now 6 = jf now (n : Int) 0 then 1 else 0) else 0); (repeat' split) <;> omega))⟩, ⟨_, rfl, rfl⟩, trivial⟩ (ih (by omega))
theorem c_X8_lacking {σ : Sto} {now : Int → Int} {P : PT} {T : TT} {Q : Option Value → Sto → Prop} {s q : Int} (hR : RR now) (r_s : -2147483648 ≤ s ∧ s < 2147483648) (r_q : -2147483648 ≤ q ∧ q < 2147483648) (k1 : ¬ ((0 ≤ s ∧ s ≤ 3) ∧ 0 ≤ q ∧ q ≤ 3) → Q (some (zI (-1))) (mst σ now P T)) (k : (0 ≤ s ∧ s ≤ 3) ∧ 0 ≤ q ∧ q ≤ 3 → Q (some (zI (if lkN now s q (now 0).toNat < 0 then 0 else lkN now s q (now 0).toNat))) (mst σ now P T)) : Con M_X8_lacking 150 150 (mst σ now P T) [.ref 144, zI s, zI q] Q := by
  refine V_entry ok_X8_lacking (Nat.le_refl _) (Nat.le_of_ble_eq_true rfl) (V_ls [(0, .ref 144), (1, zI s), (2, zI q)] ⟨rfl, rfl, rfl, trivial⟩ ?_)
  obtain ⟨d0, d1, d2, d5, d8, d9, d10, d11, d12, d13, d16, d17, d18, d19, d21, d23, d24, d27, d28, d29, d32, d33, d35, d36, d39, d40, d43, d44, d46, d47, d50, d51, d54, d55, d58, d59, d61, d62, d65, d66, d67, d68, d71, d72, d75, d77, d78, d79, d81, d82, d85, d88, d89, d92, d93, d95, d96, d98, d101, d102, d104, d107, d108, d110, d112, d115, d116, d118, d119, d122, d123, d124, d125, d128, d131, d132, d135, d136, d139, d140, -⟩ := D_X8_lacking
  refine V_iload_n (pc := 0) d0 rfl ?_
  refine V_iload_n (pc := 1) d1 rfl ?_
  refine V_cS2 (pc := 2) ca_8_43 d2 (by decide) (Nat.le_of_ble_eq_true rfl) (c_X8_isPaper (by omega) (by omega) (fun h_isPaper => ?_) (fun h_isPaper => ?_))
  · refine V_if_ne (pc := 5) d5 (by decide) (by decide) (fun _ => ?_) (fun h => absurd h (by decide))
    refine V_aload_n (pc := 10) d10 rfl (Or.inl ⟨_, rfl⟩) ?_
    refine V_iload_n (pc := 11) d11 rfl ?_
    refine V_iload_n (pc := 12) d12 rfl ?_
    refine V_cV2 (pc := 13) ca_8_50 d13 (by decide) (Nat.le_of_ble_eq_true rfl) (by decide) rfl (by decide) (c_X8_sheetsOf hR.1 (by omega) (by omega) ?_)
    refine V_ineg (pc := 16) d16 ?_
    refine V_istore_n (pc := 17) d17 (by decide) ?_
    refine V_iconst (pc := 18) d18 ?_
    refine V_istore (pc := 19) d19 (by decide) ?_
    exact V_lq [(0, .ref 144), (1, zI s), (2, zI q), (3, zI (lkN now s q 0)), (4, zI ((0 : Nat) : Int))] ⟨⟨_, rfl, rfl⟩, ⟨_, rfl, rfl⟩, ⟨_, rfl, rfl⟩, ⟨_, rfl, rfl⟩, ⟨_, rfl, rfl⟩, trivial⟩ (L_X8_lacking hR r_s r_q (k (by omega)) 0 (by omega))
  · refine V_if_ne (pc := 5) d5 (by decide) (by decide) (fun h => absurd (by decide) h) (fun _ => ?_)
    refine V_iconst (pc := 8) d8 ?_
    refine V_ret (pc := 9) (v := some (zI _)) ⟨d9, _, rfl, rfl⟩ ?_
    exact k1 (by omega)
end
