section
-- ===== PART A: goes FIRST, ahead of the names: the tables' words, and 'selects' of the private methods out of them =====
/-- a private method of a class that the tables say can be made, by its rows of tables_1 -/
def lw_okq (q : MethodName × Nat) : Prop := (q.1.cls ≠ "java/lang/invoke/MethodHandle" ∧ q.1.cls ≠ "java/lang/invoke/VarHandle") ∧ Cond.instantiable q.1.cls q.2 ∈ tables_1 ∧ Cond.privateMethod q.1 ∈ tables_1 ∧ Cond.instanceMethod q.1 ∈ tables_1
theorem lw_p0 : lw_okq (⟨"java/lang/Throwable", "fillInStackTrace", "(I)Ljava/lang/Throwable;"⟩, 6) := ⟨⟨by decide +kernel, by decide +kernel⟩, List.mem_of_getElem? (i := 306) (by decide +kernel), List.mem_of_getElem? (i := 304) (by decide +kernel), List.mem_of_getElem? (i := 305) (by decide +kernel)⟩
theorem lw_p1 : lw_okq (⟨"FrameStreams$Table", "takeOffDownTo", "(I)V"⟩, 6) := ⟨⟨by decide +kernel, by decide +kernel⟩, List.mem_of_getElem? (i := 76) (by decide +kernel), List.mem_of_getElem? (i := 451) (by decide +kernel), List.mem_of_getElem? (i := 452) (by decide +kernel)⟩
theorem lw_p2 : lw_okq (⟨"FrameStreams$BlockWriter", "put", "(I)V"⟩, 4) := ⟨⟨by decide +kernel, by decide +kernel⟩, List.mem_of_getElem? (i := 70) (by decide +kernel), List.mem_of_getElem? (i := 455) (by decide +kernel), List.mem_of_getElem? (i := 456) (by decide +kernel)⟩
theorem lw_p3 : lw_okq (⟨"FrameStreams$BlockWriter", "putField", "(II)V"⟩, 4) := ⟨⟨by decide +kernel, by decide +kernel⟩, List.mem_of_getElem? (i := 70) (by decide +kernel), List.mem_of_getElem? (i := 468) (by decide +kernel), List.mem_of_getElem? (i := 469) (by decide +kernel)⟩
theorem lw_p4 : lw_okq (⟨"FrameStreams$BlockWriter", "putText", "(I)V"⟩, 4) := ⟨⟨by decide +kernel, by decide +kernel⟩, List.mem_of_getElem? (i := 70) (by decide +kernel), List.mem_of_getElem? (i := 496) (by decide +kernel), List.mem_of_getElem? (i := 497) (by decide +kernel)⟩
theorem lw_p5 : lw_okq (⟨"FrameStreams$End", "growDues", "(I)V"⟩, 15) := ⟨⟨by decide +kernel, by decide +kernel⟩, List.mem_of_getElem? (i := 48) (by decide +kernel), List.mem_of_getElem? (i := 625) (by decide +kernel), List.mem_of_getElem? (i := 626) (by decide +kernel)⟩
theorem lw_p6 : lw_okq (⟨"FrameStreams$End", "sendPair", "(III)V"⟩, 15) := ⟨⟨by decide +kernel, by decide +kernel⟩, List.mem_of_getElem? (i := 48) (by decide +kernel), List.mem_of_getElem? (i := 630) (by decide +kernel), List.mem_of_getElem? (i := 631) (by decide +kernel)⟩
theorem lw_p7 : lw_okq (⟨"FrameStreams$End", "shut", "(I)V"⟩, 15) := ⟨⟨by decide +kernel, by decide +kernel⟩, List.mem_of_getElem? (i := 48) (by decide +kernel), List.mem_of_getElem? (i := 697) (by decide +kernel), List.mem_of_getElem? (i := 698) (by decide +kernel)⟩
theorem lw_p8 : lw_okq (⟨"FrameStreams$End", "hearData", "()I"⟩, 15) := ⟨⟨by decide +kernel, by decide +kernel⟩, List.mem_of_getElem? (i := 48) (by decide +kernel), List.mem_of_getElem? (i := 731) (by decide +kernel), List.mem_of_getElem? (i := 732) (by decide +kernel)⟩
theorem lw_p9 : lw_okq (⟨"FrameStreams$End", "hearHeaders", "()I"⟩, 15) := ⟨⟨by decide +kernel, by decide +kernel⟩, List.mem_of_getElem? (i := 48) (by decide +kernel), List.mem_of_getElem? (i := 756) (by decide +kernel), List.mem_of_getElem? (i := 757) (by decide +kernel)⟩
theorem lw_p10 : lw_okq (⟨"FrameStreams$BlockReader", "readLimits", "(I)V"⟩, 6) := ⟨⟨by decide +kernel, by decide +kernel⟩, List.mem_of_getElem? (i := 138) (by decide +kernel), List.mem_of_getElem? (i := 766) (by decide +kernel), List.mem_of_getElem? (i := 767) (by decide +kernel)⟩
theorem lw_p11 : lw_okq (⟨"FrameStreams$BlockReader", "hasMore", "()Z"⟩, 6) := ⟨⟨by decide +kernel, by decide +kernel⟩, List.mem_of_getElem? (i := 138) (by decide +kernel), List.mem_of_getElem? (i := 770) (by decide +kernel), List.mem_of_getElem? (i := 771) (by decide +kernel)⟩
theorem lw_p12 : lw_okq (⟨"FrameStreams$BlockReader", "readField", "()V"⟩, 6) := ⟨⟨by decide +kernel, by decide +kernel⟩, List.mem_of_getElem? (i := 138) (by decide +kernel), List.mem_of_getElem? (i := 779) (by decide +kernel), List.mem_of_getElem? (i := 780) (by decide +kernel)⟩
theorem lw_p13 : lw_okq (⟨"FrameStreams$BlockReader", "nextByte", "()I"⟩, 6) := ⟨⟨by decide +kernel, by decide +kernel⟩, List.mem_of_getElem? (i := 138) (by decide +kernel), List.mem_of_getElem? (i := 783) (by decide +kernel), List.mem_of_getElem? (i := 784) (by decide +kernel)⟩
theorem lw_p14 : lw_okq (⟨"FrameStreams$BlockReader", "readIndexed", "(I)V"⟩, 6) := ⟨⟨by decide +kernel, by decide +kernel⟩, List.mem_of_getElem? (i := 138) (by decide +kernel), List.mem_of_getElem? (i := 787) (by decide +kernel), List.mem_of_getElem? (i := 788) (by decide +kernel)⟩
theorem lw_p15 : lw_okq (⟨"FrameStreams$BlockReader", "readText", "()I"⟩, 6) := ⟨⟨by decide +kernel, by decide +kernel⟩, List.mem_of_getElem? (i := 138) (by decide +kernel), List.mem_of_getElem? (i := 795) (by decide +kernel), List.mem_of_getElem? (i := 796) (by decide +kernel)⟩
def lw_privs_1 : List (MethodName × Nat) := [(⟨"java/lang/Throwable", "fillInStackTrace", "(I)Ljava/lang/Throwable;"⟩, 6), (⟨"FrameStreams$Table", "takeOffDownTo", "(I)V"⟩, 6), (⟨"FrameStreams$BlockWriter", "put", "(I)V"⟩, 4), (⟨"FrameStreams$BlockWriter", "putField", "(II)V"⟩, 4), (⟨"FrameStreams$BlockWriter", "putText", "(I)V"⟩, 4), (⟨"FrameStreams$End", "growDues", "(I)V"⟩, 15), (⟨"FrameStreams$End", "sendPair", "(III)V"⟩, 15), (⟨"FrameStreams$End", "shut", "(I)V"⟩, 15), (⟨"FrameStreams$End", "hearData", "()I"⟩, 15), (⟨"FrameStreams$End", "hearHeaders", "()I"⟩, 15), (⟨"FrameStreams$BlockReader", "readLimits", "(I)V"⟩, 6), (⟨"FrameStreams$BlockReader", "hasMore", "()Z"⟩, 6), (⟨"FrameStreams$BlockReader", "readField", "()V"⟩, 6), (⟨"FrameStreams$BlockReader", "nextByte", "()I"⟩, 6), (⟨"FrameStreams$BlockReader", "readIndexed", "(I)V"⟩, 6), (⟨"FrameStreams$BlockReader", "readText", "()I"⟩, 6)]
theorem lw_r1 : ∀ q ∈ lw_privs_1, lw_okq q := List.forall_mem_cons.mpr ⟨lw_p0, List.forall_mem_cons.mpr ⟨lw_p1, List.forall_mem_cons.mpr ⟨lw_p2, List.forall_mem_cons.mpr ⟨lw_p3, List.forall_mem_cons.mpr ⟨lw_p4, List.forall_mem_cons.mpr ⟨lw_p5, List.forall_mem_cons.mpr ⟨lw_p6, List.forall_mem_cons.mpr ⟨lw_p7, List.forall_mem_cons.mpr ⟨lw_p8, List.forall_mem_cons.mpr ⟨lw_p9, List.forall_mem_cons.mpr ⟨lw_p10, List.forall_mem_cons.mpr ⟨lw_p11, List.forall_mem_cons.mpr ⟨lw_p12, List.forall_mem_cons.mpr ⟨lw_p13, List.forall_mem_cons.mpr ⟨lw_p14, List.forall_mem_cons.mpr ⟨lw_p15, fun _ h => absurd h List.not_mem_nil⟩⟩⟩⟩⟩⟩⟩⟩⟩⟩⟩⟩⟩⟩⟩⟩
theorem lw_p16 : lw_okq (⟨"FrameStreams$End", "hearReset", "()I"⟩, 15) := ⟨⟨by decide +kernel, by decide +kernel⟩, List.mem_of_getElem? (i := 48) (by decide +kernel), List.mem_of_getElem? (i := 820) (by decide +kernel), List.mem_of_getElem? (i := 821) (by decide +kernel)⟩
theorem lw_p17 : lw_okq (⟨"FrameStreams$End", "hearSettings", "()I"⟩, 15) := ⟨⟨by decide +kernel, by decide +kernel⟩, List.mem_of_getElem? (i := 48) (by decide +kernel), List.mem_of_getElem? (i := 824) (by decide +kernel), List.mem_of_getElem? (i := 825) (by decide +kernel)⟩
theorem lw_p18 : lw_okq (⟨"FrameStreams$End", "growRooms", "(I)V"⟩, 15) := ⟨⟨by decide +kernel, by decide +kernel⟩, List.mem_of_getElem? (i := 48) (by decide +kernel), List.mem_of_getElem? (i := 830) (by decide +kernel), List.mem_of_getElem? (i := 831) (by decide +kernel)⟩
theorem lw_p19 : lw_okq (⟨"FrameStreams$End", "hearPing", "()I"⟩, 15) := ⟨⟨by decide +kernel, by decide +kernel⟩, List.mem_of_getElem? (i := 48) (by decide +kernel), List.mem_of_getElem? (i := 834) (by decide +kernel), List.mem_of_getElem? (i := 835) (by decide +kernel)⟩
theorem lw_p20 : lw_okq (⟨"FrameStreams$End", "hearWindow", "()I"⟩, 15) := ⟨⟨by decide +kernel, by decide +kernel⟩, List.mem_of_getElem? (i := 48) (by decide +kernel), List.mem_of_getElem? (i := 838) (by decide +kernel), List.mem_of_getElem? (i := 839) (by decide +kernel)⟩
theorem lw_p21 : lw_okq (⟨"FrameStreams$End", "tellKnown", "(I)I"⟩, 15) := ⟨⟨by decide +kernel, by decide +kernel⟩, List.mem_of_getElem? (i := 48) (by decide +kernel), List.mem_of_getElem? (i := 926) (by decide +kernel), List.mem_of_getElem? (i := 927) (by decide +kernel)⟩
theorem lw_p22 : lw_okq (⟨"FrameStreamsModel", "fail", "(I)I"⟩, 36) := ⟨⟨by decide +kernel, by decide +kernel⟩, List.mem_of_getElem? (i := 930) (by decide +kernel), List.mem_of_getElem? (i := 1056) (by decide +kernel), List.mem_of_getElem? (i := 1057) (by decide +kernel)⟩
theorem lw_p23 : lw_okq (⟨"FrameStreamsModel", "give", "(I)I"⟩, 36) := ⟨⟨by decide +kernel, by decide +kernel⟩, List.mem_of_getElem? (i := 930) (by decide +kernel), List.mem_of_getElem? (i := 1060) (by decide +kernel), List.mem_of_getElem? (i := 1061) (by decide +kernel)⟩
theorem lw_p24 : lw_okq (⟨"FrameStreamsModel", "byteIn", "(I)I"⟩, 36) := ⟨⟨by decide +kernel, by decide +kernel⟩, List.mem_of_getElem? (i := 930) (by decide +kernel), List.mem_of_getElem? (i := 1076) (by decide +kernel), List.mem_of_getElem? (i := 1077) (by decide +kernel)⟩
theorem lw_p25 : lw_okq (⟨"FrameStreamsModel", "hearFrame", "(I)Z"⟩, 36) := ⟨⟨by decide +kernel, by decide +kernel⟩, List.mem_of_getElem? (i := 930) (by decide +kernel), List.mem_of_getElem? (i := 1080) (by decide +kernel), List.mem_of_getElem? (i := 1081) (by decide +kernel)⟩
theorem lw_p26 : lw_okq (⟨"FrameStreamsModel", "shapeRight", "(IIII)Z"⟩, 36) := ⟨⟨by decide +kernel, by decide +kernel⟩, List.mem_of_getElem? (i := 930) (by decide +kernel), List.mem_of_getElem? (i := 1084) (by decide +kernel), List.mem_of_getElem? (i := 1085) (by decide +kernel)⟩
theorem lw_p27 : lw_okq (⟨"FrameStreamsModel", "bad", "(I)Z"⟩, 36) := ⟨⟨by decide +kernel, by decide +kernel⟩, List.mem_of_getElem? (i := 930) (by decide +kernel), List.mem_of_getElem? (i := 1091) (by decide +kernel), List.mem_of_getElem? (i := 1092) (by decide +kernel)⟩
theorem lw_p28 : lw_okq (⟨"FrameStreamsModel", "hearData", "(IIII)Z"⟩, 36) := ⟨⟨by decide +kernel, by decide +kernel⟩, List.mem_of_getElem? (i := 930) (by decide +kernel), List.mem_of_getElem? (i := 1095) (by decide +kernel), List.mem_of_getElem? (i := 1096) (by decide +kernel)⟩
theorem lw_p29 : lw_okq (⟨"FrameStreamsModel", "refuse", "(III)Z"⟩, 36) := ⟨⟨by decide +kernel, by decide +kernel⟩, List.mem_of_getElem? (i := 930) (by decide +kernel), List.mem_of_getElem? (i := 1102) (by decide +kernel), List.mem_of_getElem? (i := 1103) (by decide +kernel)⟩
theorem lw_p30 : lw_okq (⟨"FrameStreamsModel", "reply", "(IIIIII)Z"⟩, 36) := ⟨⟨by decide +kernel, by decide +kernel⟩, List.mem_of_getElem? (i := 930) (by decide +kernel), List.mem_of_getElem? (i := 1106) (by decide +kernel), List.mem_of_getElem? (i := 1107) (by decide +kernel)⟩
theorem lw_p31 : lw_okq (⟨"FrameStreamsModel", "noRoom", "(II)Z"⟩, 36) := ⟨⟨by decide +kernel, by decide +kernel⟩, List.mem_of_getElem? (i := 930) (by decide +kernel), List.mem_of_getElem? (i := 1110) (by decide +kernel), List.mem_of_getElem? (i := 1111) (by decide +kernel)⟩
def lw_privs_2 : List (MethodName × Nat) := [(⟨"FrameStreams$End", "hearReset", "()I"⟩, 15), (⟨"FrameStreams$End", "hearSettings", "()I"⟩, 15), (⟨"FrameStreams$End", "growRooms", "(I)V"⟩, 15), (⟨"FrameStreams$End", "hearPing", "()I"⟩, 15), (⟨"FrameStreams$End", "hearWindow", "()I"⟩, 15), (⟨"FrameStreams$End", "tellKnown", "(I)I"⟩, 15), (⟨"FrameStreamsModel", "fail", "(I)I"⟩, 36), (⟨"FrameStreamsModel", "give", "(I)I"⟩, 36), (⟨"FrameStreamsModel", "byteIn", "(I)I"⟩, 36), (⟨"FrameStreamsModel", "hearFrame", "(I)Z"⟩, 36), (⟨"FrameStreamsModel", "shapeRight", "(IIII)Z"⟩, 36), (⟨"FrameStreamsModel", "bad", "(I)Z"⟩, 36), (⟨"FrameStreamsModel", "hearData", "(IIII)Z"⟩, 36), (⟨"FrameStreamsModel", "refuse", "(III)Z"⟩, 36), (⟨"FrameStreamsModel", "reply", "(IIIIII)Z"⟩, 36), (⟨"FrameStreamsModel", "noRoom", "(II)Z"⟩, 36)]
theorem lw_r2 : ∀ q ∈ lw_privs_2, lw_okq q := List.forall_mem_cons.mpr ⟨lw_p16, List.forall_mem_cons.mpr ⟨lw_p17, List.forall_mem_cons.mpr ⟨lw_p18, List.forall_mem_cons.mpr ⟨lw_p19, List.forall_mem_cons.mpr ⟨lw_p20, List.forall_mem_cons.mpr ⟨lw_p21, List.forall_mem_cons.mpr ⟨lw_p22, List.forall_mem_cons.mpr ⟨lw_p23, List.forall_mem_cons.mpr ⟨lw_p24, List.forall_mem_cons.mpr ⟨lw_p25, List.forall_mem_cons.mpr ⟨lw_p26, List.forall_mem_cons.mpr ⟨lw_p27, List.forall_mem_cons.mpr ⟨lw_p28, List.forall_mem_cons.mpr ⟨lw_p29, List.forall_mem_cons.mpr ⟨lw_p30, List.forall_mem_cons.mpr ⟨lw_p31, fun _ h => absurd h List.not_mem_nil⟩⟩⟩⟩⟩⟩⟩⟩⟩⟩⟩⟩⟩⟩⟩⟩
theorem lw_p32 : lw_okq (⟨"FrameStreamsModel", "head", "(IIIII)V"⟩, 36) := ⟨⟨by decide +kernel, by decide +kernel⟩, List.mem_of_getElem? (i := 930) (by decide +kernel), List.mem_of_getElem? (i := 1114) (by decide +kernel), List.mem_of_getElem? (i := 1115) (by decide +kernel)⟩
theorem lw_p33 : lw_okq (⟨"FrameStreamsModel", "byteOut", "(II)V"⟩, 36) := ⟨⟨by decide +kernel, by decide +kernel⟩, List.mem_of_getElem? (i := 930) (by decide +kernel), List.mem_of_getElem? (i := 1118) (by decide +kernel), List.mem_of_getElem? (i := 1119) (by decide +kernel)⟩
theorem lw_p34 : lw_okq (⟨"FrameStreamsModel", "heardLast", "(I)V"⟩, 36) := ⟨⟨by decide +kernel, by decide +kernel⟩, List.mem_of_getElem? (i := 930) (by decide +kernel), List.mem_of_getElem? (i := 1122) (by decide +kernel), List.mem_of_getElem? (i := 1123) (by decide +kernel)⟩
theorem lw_p35 : lw_okq (⟨"FrameStreamsModel", "hearHeaders", "(III)Z"⟩, 36) := ⟨⟨by decide +kernel, by decide +kernel⟩, List.mem_of_getElem? (i := 930) (by decide +kernel), List.mem_of_getElem? (i := 1126) (by decide +kernel), List.mem_of_getElem? (i := 1127) (by decide +kernel)⟩
theorem lw_p36 : lw_okq (⟨"FrameStreamsModel", "hearBlock", "(I)Z"⟩, 36) := ⟨⟨by decide +kernel, by decide +kernel⟩, List.mem_of_getElem? (i := 930) (by decide +kernel), List.mem_of_getElem? (i := 1130) (by decide +kernel), List.mem_of_getElem? (i := 1131) (by decide +kernel)⟩
theorem lw_p37 : lw_okq (⟨"FrameStreamsModel", "hearOne", "(II)Z"⟩, 36) := ⟨⟨by decide +kernel, by decide +kernel⟩, List.mem_of_getElem? (i := 930) (by decide +kernel), List.mem_of_getElem? (i := 1134) (by decide +kernel), List.mem_of_getElem? (i := 1135) (by decide +kernel)⟩
theorem lw_p38 : lw_okq (⟨"FrameStreamsModel", "wrong", "()Z"⟩, 36) := ⟨⟨by decide +kernel, by decide +kernel⟩, List.mem_of_getElem? (i := 930) (by decide +kernel), List.mem_of_getElem? (i := 1138) (by decide +kernel), List.mem_of_getElem? (i := 1139) (by decide +kernel)⟩
theorem lw_p39 : lw_okq (⟨"FrameStreamsModel", "lower", "(II)V"⟩, 36) := ⟨⟨by decide +kernel, by decide +kernel⟩, List.mem_of_getElem? (i := 930) (by decide +kernel), List.mem_of_getElem? (i := 1142) (by decide +kernel), List.mem_of_getElem? (i := 1143) (by decide +kernel)⟩
theorem lw_p40 : lw_okq (⟨"FrameStreamsModel", "sizes", "(I)I"⟩, 36) := ⟨⟨by decide +kernel, by decide +kernel⟩, List.mem_of_getElem? (i := 930) (by decide +kernel), List.mem_of_getElem? (i := 1146) (by decide +kernel), List.mem_of_getElem? (i := 1147) (by decide +kernel)⟩
theorem lw_p41 : lw_okq (⟨"FrameStreamsModel", "size", "(II)I"⟩, 36) := ⟨⟨by decide +kernel, by decide +kernel⟩, List.mem_of_getElem? (i := 930) (by decide +kernel), List.mem_of_getElem? (i := 1150) (by decide +kernel), List.mem_of_getElem? (i := 1151) (by decide +kernel)⟩
theorem lw_p42 : lw_okq (⟨"FrameStreamsModel", "fetch", "(II)Z"⟩, 36) := ⟨⟨by decide +kernel, by decide +kernel⟩, List.mem_of_getElem? (i := 930) (by decide +kernel), List.mem_of_getElem? (i := 1154) (by decide +kernel), List.mem_of_getElem? (i := 1155) (by decide +kernel)⟩
theorem lw_p43 : lw_okq (⟨"FrameStreamsModel", "spell", "(III)V"⟩, 36) := ⟨⟨by decide +kernel, by decide +kernel⟩, List.mem_of_getElem? (i := 930) (by decide +kernel), List.mem_of_getElem? (i := 1158) (by decide +kernel), List.mem_of_getElem? (i := 1159) (by decide +kernel)⟩
theorem lw_p44 : lw_okq (⟨"FrameStreamsModel", "hearLiteral", "(II)Z"⟩, 36) := ⟨⟨by decide +kernel, by decide +kernel⟩, List.mem_of_getElem? (i := 930) (by decide +kernel), List.mem_of_getElem? (i := 1162) (by decide +kernel), List.mem_of_getElem? (i := 1163) (by decide +kernel)⟩
theorem lw_p45 : lw_okq (⟨"FrameStreamsModel", "hearString", "(III)Z"⟩, 36) := ⟨⟨by decide +kernel, by decide +kernel⟩, List.mem_of_getElem? (i := 930) (by decide +kernel), List.mem_of_getElem? (i := 1166) (by decide +kernel), List.mem_of_getElem? (i := 1167) (by decide +kernel)⟩
theorem lw_p46 : lw_okq (⟨"FrameStreamsModel", "add", "(I)V"⟩, 36) := ⟨⟨by decide +kernel, by decide +kernel⟩, List.mem_of_getElem? (i := 930) (by decide +kernel), List.mem_of_getElem? (i := 1170) (by decide +kernel), List.mem_of_getElem? (i := 1171) (by decide +kernel)⟩
theorem lw_p47 : lw_okq (⟨"FrameStreamsModel", "busyStreams", "(I)I"⟩, 36) := ⟨⟨by decide +kernel, by decide +kernel⟩, List.mem_of_getElem? (i := 930) (by decide +kernel), List.mem_of_getElem? (i := 1174) (by decide +kernel), List.mem_of_getElem? (i := 1175) (by decide +kernel)⟩
def lw_privs_3 : List (MethodName × Nat) := [(⟨"FrameStreamsModel", "head", "(IIIII)V"⟩, 36), (⟨"FrameStreamsModel", "byteOut", "(II)V"⟩, 36), (⟨"FrameStreamsModel", "heardLast", "(I)V"⟩, 36), (⟨"FrameStreamsModel", "hearHeaders", "(III)Z"⟩, 36), (⟨"FrameStreamsModel", "hearBlock", "(I)Z"⟩, 36), (⟨"FrameStreamsModel", "hearOne", "(II)Z"⟩, 36), (⟨"FrameStreamsModel", "wrong", "()Z"⟩, 36), (⟨"FrameStreamsModel", "lower", "(II)V"⟩, 36), (⟨"FrameStreamsModel", "sizes", "(I)I"⟩, 36), (⟨"FrameStreamsModel", "size", "(II)I"⟩, 36), (⟨"FrameStreamsModel", "fetch", "(II)Z"⟩, 36), (⟨"FrameStreamsModel", "spell", "(III)V"⟩, 36), (⟨"FrameStreamsModel", "hearLiteral", "(II)Z"⟩, 36), (⟨"FrameStreamsModel", "hearString", "(III)Z"⟩, 36), (⟨"FrameStreamsModel", "add", "(I)V"⟩, 36), (⟨"FrameStreamsModel", "busyStreams", "(I)I"⟩, 36)]
theorem lw_r3 : ∀ q ∈ lw_privs_3, lw_okq q := List.forall_mem_cons.mpr ⟨lw_p32, List.forall_mem_cons.mpr ⟨lw_p33, List.forall_mem_cons.mpr ⟨lw_p34, List.forall_mem_cons.mpr ⟨lw_p35, List.forall_mem_cons.mpr ⟨lw_p36, List.forall_mem_cons.mpr ⟨lw_p37, List.forall_mem_cons.mpr ⟨lw_p38, List.forall_mem_cons.mpr ⟨lw_p39, List.forall_mem_cons.mpr ⟨lw_p40, List.forall_mem_cons.mpr ⟨lw_p41, List.forall_mem_cons.mpr ⟨lw_p42, List.forall_mem_cons.mpr ⟨lw_p43, List.forall_mem_cons.mpr ⟨lw_p44, List.forall_mem_cons.mpr ⟨lw_p45, List.forall_mem_cons.mpr ⟨lw_p46, List.forall_mem_cons.mpr ⟨lw_p47, fun _ h => absurd h List.not_mem_nil⟩⟩⟩⟩⟩⟩⟩⟩⟩⟩⟩⟩⟩⟩⟩⟩
theorem lw_p48 : lw_okq (⟨"FrameStreamsModel", "busy", "(I)Z"⟩, 36) := ⟨⟨by decide +kernel, by decide +kernel⟩, List.mem_of_getElem? (i := 930) (by decide +kernel), List.mem_of_getElem? (i := 1178) (by decide +kernel), List.mem_of_getElem? (i := 1179) (by decide +kernel)⟩
theorem lw_p49 : lw_okq (⟨"FrameStreamsModel", "open", "(III)V"⟩, 36) := ⟨⟨by decide +kernel, by decide +kernel⟩, List.mem_of_getElem? (i := 930) (by decide +kernel), List.mem_of_getElem? (i := 1182) (by decide +kernel), List.mem_of_getElem? (i := 1183) (by decide +kernel)⟩
theorem lw_p50 : lw_okq (⟨"FrameStreamsModel", "hearSetting", "(IIII)Z"⟩, 36) := ⟨⟨by decide +kernel, by decide +kernel⟩, List.mem_of_getElem? (i := 930) (by decide +kernel), List.mem_of_getElem? (i := 1186) (by decide +kernel), List.mem_of_getElem? (i := 1187) (by decide +kernel)⟩
theorem lw_p51 : lw_okq (⟨"FrameStreamsModel", "hearPing", "(III)Z"⟩, 36) := ⟨⟨by decide +kernel, by decide +kernel⟩, List.mem_of_getElem? (i := 930) (by decide +kernel), List.mem_of_getElem? (i := 1193) (by decide +kernel), List.mem_of_getElem? (i := 1194) (by decide +kernel)⟩
theorem lw_p52 : lw_okq (⟨"FrameStreamsModel", "hearWindow", "(III)Z"⟩, 36) := ⟨⟨by decide +kernel, by decide +kernel⟩, List.mem_of_getElem? (i := 930) (by decide +kernel), List.mem_of_getElem? (i := 1197) (by decide +kernel), List.mem_of_getElem? (i := 1198) (by decide +kernel)⟩
theorem lw_p53 : lw_okq (⟨"FrameStreamsModel", "fallen", "(II)I"⟩, 36) := ⟨⟨by decide +kernel, by decide +kernel⟩, List.mem_of_getElem? (i := 930) (by decide +kernel), List.mem_of_getElem? (i := 1201) (by decide +kernel), List.mem_of_getElem? (i := 1202) (by decide +kernel)⟩
theorem lw_p54 : lw_okq (⟨"FrameStreamsModel", "mayOpen", "(I)Z"⟩, 36) := ⟨⟨by decide +kernel, by decide +kernel⟩, List.mem_of_getElem? (i := 930) (by decide +kernel), List.mem_of_getElem? (i := 1209) (by decide +kernel), List.mem_of_getElem? (i := 1210) (by decide +kernel)⟩
theorem lw_p55 : lw_okq (⟨"FrameStreamsModel", "maySend", "(II)Z"⟩, 36) := ⟨⟨by decide +kernel, by decide +kernel⟩, List.mem_of_getElem? (i := 930) (by decide +kernel), List.mem_of_getElem? (i := 1213) (by decide +kernel), List.mem_of_getElem? (i := 1214) (by decide +kernel)⟩
theorem lw_p56 : lw_okq (⟨"FrameStreamsModel", "keep", "(IZ)V"⟩, 36) := ⟨⟨by decide +kernel, by decide +kernel⟩, List.mem_of_getElem? (i := 930) (by decide +kernel), List.mem_of_getElem? (i := 1217) (by decide +kernel), List.mem_of_getElem? (i := 1218) (by decide +kernel)⟩
theorem lw_p57 : lw_okq (⟨"FrameStreamsModel", "putBlock", "(I)V"⟩, 36) := ⟨⟨by decide +kernel, by decide +kernel⟩, List.mem_of_getElem? (i := 930) (by decide +kernel), List.mem_of_getElem? (i := 1221) (by decide +kernel), List.mem_of_getElem? (i := 1222) (by decide +kernel)⟩
theorem lw_p58 : lw_okq (⟨"FrameStreamsModel", "put", "(I)V"⟩, 36) := ⟨⟨by decide +kernel, by decide +kernel⟩, List.mem_of_getElem? (i := 930) (by decide +kernel), List.mem_of_getElem? (i := 1225) (by decide +kernel), List.mem_of_getElem? (i := 1226) (by decide +kernel)⟩
theorem lw_p59 : lw_okq (⟨"FrameStreamsModel", "putField", "(II)V"⟩, 36) := ⟨⟨by decide +kernel, by decide +kernel⟩, List.mem_of_getElem? (i := 930) (by decide +kernel), List.mem_of_getElem? (i := 1229) (by decide +kernel), List.mem_of_getElem? (i := 1230) (by decide +kernel)⟩
theorem lw_p60 : lw_okq (⟨"FrameStreamsModel", "indexOf", "(IIZ)I"⟩, 36) := ⟨⟨by decide +kernel, by decide +kernel⟩, List.mem_of_getElem? (i := 930) (by decide +kernel), List.mem_of_getElem? (i := 1233) (by decide +kernel), List.mem_of_getElem? (i := 1234) (by decide +kernel)⟩
theorem lw_p61 : lw_okq (⟨"FrameStreamsModel", "alike", "(IZ)Z"⟩, 36) := ⟨⟨by decide +kernel, by decide +kernel⟩, List.mem_of_getElem? (i := 930) (by decide +kernel), List.mem_of_getElem? (i := 1237) (by decide +kernel), List.mem_of_getElem? (i := 1238) (by decide +kernel)⟩
theorem lw_p62 : lw_okq (⟨"FrameStreamsModel", "putString", "(II)V"⟩, 36) := ⟨⟨by decide +kernel, by decide +kernel⟩, List.mem_of_getElem? (i := 930) (by decide +kernel), List.mem_of_getElem? (i := 1241) (by decide +kernel), List.mem_of_getElem? (i := 1242) (by decide +kernel)⟩
theorem lw_p63 : lw_okq (⟨"FrameStreamsModel", "sentLast", "(I)V"⟩, 36) := ⟨⟨by decide +kernel, by decide +kernel⟩, List.mem_of_getElem? (i := 930) (by decide +kernel), List.mem_of_getElem? (i := 1245) (by decide +kernel), List.mem_of_getElem? (i := 1246) (by decide +kernel)⟩
def lw_privs_4 : List (MethodName × Nat) := [(⟨"FrameStreamsModel", "busy", "(I)Z"⟩, 36), (⟨"FrameStreamsModel", "open", "(III)V"⟩, 36), (⟨"FrameStreamsModel", "hearSetting", "(IIII)Z"⟩, 36), (⟨"FrameStreamsModel", "hearPing", "(III)Z"⟩, 36), (⟨"FrameStreamsModel", "hearWindow", "(III)Z"⟩, 36), (⟨"FrameStreamsModel", "fallen", "(II)I"⟩, 36), (⟨"FrameStreamsModel", "mayOpen", "(I)Z"⟩, 36), (⟨"FrameStreamsModel", "maySend", "(II)Z"⟩, 36), (⟨"FrameStreamsModel", "keep", "(IZ)V"⟩, 36), (⟨"FrameStreamsModel", "putBlock", "(I)V"⟩, 36), (⟨"FrameStreamsModel", "put", "(I)V"⟩, 36), (⟨"FrameStreamsModel", "putField", "(II)V"⟩, 36), (⟨"FrameStreamsModel", "indexOf", "(IIZ)I"⟩, 36), (⟨"FrameStreamsModel", "alike", "(IZ)Z"⟩, 36), (⟨"FrameStreamsModel", "putString", "(II)V"⟩, 36), (⟨"FrameStreamsModel", "sentLast", "(I)V"⟩, 36)]
theorem lw_r4 : ∀ q ∈ lw_privs_4, lw_okq q := List.forall_mem_cons.mpr ⟨lw_p48, List.forall_mem_cons.mpr ⟨lw_p49, List.forall_mem_cons.mpr ⟨lw_p50, List.forall_mem_cons.mpr ⟨lw_p51, List.forall_mem_cons.mpr ⟨lw_p52, List.forall_mem_cons.mpr ⟨lw_p53, List.forall_mem_cons.mpr ⟨lw_p54, List.forall_mem_cons.mpr ⟨lw_p55, List.forall_mem_cons.mpr ⟨lw_p56, List.forall_mem_cons.mpr ⟨lw_p57, List.forall_mem_cons.mpr ⟨lw_p58, List.forall_mem_cons.mpr ⟨lw_p59, List.forall_mem_cons.mpr ⟨lw_p60, List.forall_mem_cons.mpr ⟨lw_p61, List.forall_mem_cons.mpr ⟨lw_p62, List.forall_mem_cons.mpr ⟨lw_p63, fun _ h => absurd h List.not_mem_nil⟩⟩⟩⟩⟩⟩⟩⟩⟩⟩⟩⟩⟩⟩⟩⟩
def lw_privs : List (MethodName × Nat) := lw_privs_1 ++ (lw_privs_2 ++ (lw_privs_3 ++ (lw_privs_4)))
def lw_tbl : List Cond := k2_sels lw_privs ++ tables_1
theorem lw_privs_ok : ∀ q ∈ lw_privs, lw_okq q := by
  show ∀ q ∈ lw_privs_1 ++ (lw_privs_2 ++ (lw_privs_3 ++ (lw_privs_4))), lw_okq q
  exact List.forall_mem_append.mpr ⟨lw_r1, List.forall_mem_append.mpr ⟨lw_r2, List.forall_mem_append.mpr ⟨lw_r3, lw_r4⟩⟩⟩
end
section
def R_FrameStreams : String := "FrameStreams"
def T_FrameStreams : u_T := fun k => match k with
  | 0 => ("FrameStreams", "texts", "[I", true)
  | _ => ("FrameStreams", "ends", "[LFrameStreams$End;", true)
def ty_FrameStreams : Nat → FieldType := fun k => match k with
  | 0 => .array .int
  | _ => .array (.object "FrameStreams$End")
theorem nm_FrameStreams : ∀ a, a < 2 → ∀ b, b < 2 → a ≠ b → (T_FrameStreams a).2.1 ≠ (T_FrameStreams b).2.1 := by decide +kernel
theorem tk_FrameStreams : ∀ k, k < 2 → parseFieldDescriptor (T_FrameStreams k).2.2.1 = some (ty_FrameStreams k) := by decide +kernel
theorem wi_FrameStreams : ∀ w ∈ u_ws R_FrameStreams T_FrameStreams 2, w ∈ lw_tbl := by decide +kernel
def R_BlockReader : String := "FrameStreams$BlockReader"
def T_BlockReader : u_T := fun k => match k with
  | 0 => ("FrameStreams$BlockReader", "frame", "LFrameStreams$Frame;", true)
  | 1 => ("FrameStreams$BlockReader", "table", "LFrameStreams$Table;", true)
  | 2 => ("FrameStreams$BlockReader", "fields", "LFrameStreams$Fields;", true)
  | 3 => ("FrameStreams$BlockReader", "position", "I", false)
  | 4 => ("FrameStreams$BlockReader", "length", "I", false)
  | _ => ("FrameStreams$BlockReader", "isWrong", "Z", false)
def ty_BlockReader : Nat → FieldType := fun k => match k with
  | 0 => .object "FrameStreams$Frame"
  | 1 => .object "FrameStreams$Table"
  | 2 => .object "FrameStreams$Fields"
  | 3 => .int
  | 4 => .int
  | _ => .boolean
theorem nm_BlockReader : ∀ a, a < 6 → ∀ b, b < 6 → a ≠ b → (T_BlockReader a).2.1 ≠ (T_BlockReader b).2.1 := by decide +kernel
theorem tk_BlockReader : ∀ k, k < 6 → parseFieldDescriptor (T_BlockReader k).2.2.1 = some (ty_BlockReader k) := by decide +kernel
theorem wi_BlockReader : ∀ w ∈ u_ws R_BlockReader T_BlockReader 6, w ∈ lw_tbl := by decide +kernel
def R_BlockWriter : String := "FrameStreams$BlockWriter"
def T_BlockWriter : u_T := fun k => match k with
  | 0 => ("FrameStreams$BlockWriter", "table", "LFrameStreams$Table;", true)
  | 1 => ("FrameStreams$BlockWriter", "trial", "LFrameStreams$Table;", true)
  | 2 => ("FrameStreams$BlockWriter", "bytes", "[I", true)
  | _ => ("FrameStreams$BlockWriter", "length", "I", false)
def ty_BlockWriter : Nat → FieldType := fun k => match k with
  | 0 => .object "FrameStreams$Table"
  | 1 => .object "FrameStreams$Table"
  | 2 => .array .int
  | _ => .int
theorem nm_BlockWriter : ∀ a, a < 4 → ∀ b, b < 4 → a ≠ b → (T_BlockWriter a).2.1 ≠ (T_BlockWriter b).2.1 := by decide +kernel
theorem tk_BlockWriter : ∀ k, k < 4 → parseFieldDescriptor (T_BlockWriter k).2.2.1 = some (ty_BlockWriter k) := by decide +kernel
theorem wi_BlockWriter : ∀ w ∈ u_ws R_BlockWriter T_BlockWriter 4, w ∈ lw_tbl := by decide +kernel
def R_End : String := "FrameStreams$End"
def T_End : u_T := fun k => match k with
  | 0 => ("FrameStreams$End", "isOpener", "Z", true)
  | 1 => ("FrameStreams$End", "in", "LFrameStreams$Wire;", true)
  | 2 => ("FrameStreams$End", "out", "LFrameStreams$Wire;", true)
  | 3 => ("FrameStreams$End", "frame", "LFrameStreams$Frame;", true)
  | 4 => ("FrameStreams$End", "list", "LFrameStreams$Fields;", true)
  | 5 => ("FrameStreams$End", "writer", "LFrameStreams$BlockWriter;", true)
  | 6 => ("FrameStreams$End", "reader", "LFrameStreams$BlockReader;", true)
  | 7 => ("FrameStreams$End", "streams", "[LFrameStreams$Stream;", true)
  | 8 => ("FrameStreams$End", "own", "[I", true)
  | 9 => ("FrameStreams$End", "known", "[I", true)
  | 10 => ("FrameStreams$End", "opened", "I", false)
  | 11 => ("FrameStreams$End", "greatestHeard", "I", false)
  | 12 => ("FrameStreams$End", "answers", "I", false)
  | 13 => ("FrameStreams$End", "away", "I", false)
  | _ => ("FrameStreams$End", "shutBy", "I", false)
def ty_End : Nat → FieldType := fun k => match k with
  | 0 => .boolean
  | 1 => .object "FrameStreams$Wire"
  | 2 => .object "FrameStreams$Wire"
  | 3 => .object "FrameStreams$Frame"
  | 4 => .object "FrameStreams$Fields"
  | 5 => .object "FrameStreams$BlockWriter"
  | 6 => .object "FrameStreams$BlockReader"
  | 7 => .array (.object "FrameStreams$Stream")
  | 8 => .array .int
  | 9 => .array .int
  | 10 => .int
  | 11 => .int
  | 12 => .int
  | 13 => .int
  | _ => .int
theorem nm_End : ∀ a, a < 15 → ∀ b, b < 15 → a ≠ b → (T_End a).2.1 ≠ (T_End b).2.1 := by decide +kernel
theorem tk_End : ∀ k, k < 15 → parseFieldDescriptor (T_End k).2.2.1 = some (ty_End k) := by decide +kernel
theorem wi_End : ∀ w ∈ u_ws R_End T_End 15, w ∈ lw_tbl := by decide +kernel
def R_Fields : String := "FrameStreams$Fields"
def T_Fields : u_T := fun k => match k with
  | 0 => ("FrameStreams$Fields", "names", "[I", true)
  | 1 => ("FrameStreams$Fields", "values", "[I", true)
  | _ => ("FrameStreams$Fields", "count", "I", false)
def ty_Fields : Nat → FieldType := fun k => match k with
  | 0 => .array .int
  | 1 => .array .int
  | _ => .int
theorem nm_Fields : ∀ a, a < 3 → ∀ b, b < 3 → a ≠ b → (T_Fields a).2.1 ≠ (T_Fields b).2.1 := by decide +kernel
theorem tk_Fields : ∀ k, k < 3 → parseFieldDescriptor (T_Fields k).2.2.1 = some (ty_Fields k) := by decide +kernel
theorem wi_Fields : ∀ w ∈ u_ws R_Fields T_Fields 3, w ∈ lw_tbl := by decide +kernel
def R_Frame : String := "FrameStreams$Frame"
def T_Frame : u_T := fun k => match k with
  | 0 => ("FrameStreams$Frame", "bytes", "[I", true)
  | _ => ("FrameStreams$Frame", "count", "I", false)
def ty_Frame : Nat → FieldType := fun k => match k with
  | 0 => .array .int
  | _ => .int
theorem nm_Frame : ∀ a, a < 2 → ∀ b, b < 2 → a ≠ b → (T_Frame a).2.1 ≠ (T_Frame b).2.1 := by decide +kernel
theorem tk_Frame : ∀ k, k < 2 → parseFieldDescriptor (T_Frame k).2.2.1 = some (ty_Frame k) := by decide +kernel
theorem wi_Frame : ∀ w ∈ u_ws R_Frame T_Frame 2, w ∈ lw_tbl := by decide +kernel
def R_Stream : String := "FrameStreams$Stream"
def T_Stream : u_T := fun k => match k with
  | 0 => ("FrameStreams$Stream", "fields", "LFrameStreams$Fields;", true)
  | 1 => ("FrameStreams$Stream", "state", "I", false)
  | 2 => ("FrameStreams$Stream", "room", "I", false)
  | 3 => ("FrameStreams$Stream", "due", "I", false)
  | 4 => ("FrameStreams$Stream", "came", "I", false)
  | _ => ("FrameStreams$Stream", "sum", "I", false)
def ty_Stream : Nat → FieldType := fun k => match k with
  | 0 => .object "FrameStreams$Fields"
  | 1 => .int
  | 2 => .int
  | 3 => .int
  | 4 => .int
  | _ => .int
theorem nm_Stream : ∀ a, a < 6 → ∀ b, b < 6 → a ≠ b → (T_Stream a).2.1 ≠ (T_Stream b).2.1 := by decide +kernel
theorem tk_Stream : ∀ k, k < 6 → parseFieldDescriptor (T_Stream k).2.2.1 = some (ty_Stream k) := by decide +kernel
theorem wi_Stream : ∀ w ∈ u_ws R_Stream T_Stream 6, w ∈ lw_tbl := by decide +kernel
def R_Table : String := "FrameStreams$Table"
def T_Table : u_T := fun k => match k with
  | 0 => ("FrameStreams$Table", "names", "[I", true)
  | 1 => ("FrameStreams$Table", "values", "[I", true)
  | 2 => ("FrameStreams$Table", "sizes", "[I", true)
  | 3 => ("FrameStreams$Table", "count", "I", false)
  | 4 => ("FrameStreams$Table", "total", "I", false)
  | _ => ("FrameStreams$Table", "limit", "I", false)
def ty_Table : Nat → FieldType := fun k => match k with
  | 0 => .array .int
  | 1 => .array .int
  | 2 => .array .int
  | 3 => .int
  | 4 => .int
  | _ => .int
theorem nm_Table : ∀ a, a < 6 → ∀ b, b < 6 → a ≠ b → (T_Table a).2.1 ≠ (T_Table b).2.1 := by decide +kernel
theorem tk_Table : ∀ k, k < 6 → parseFieldDescriptor (T_Table k).2.2.1 = some (ty_Table k) := by decide +kernel
theorem wi_Table : ∀ w ∈ u_ws R_Table T_Table 6, w ∈ lw_tbl := by decide +kernel
def R_Wire : String := "FrameStreams$Wire"
def T_Wire : u_T := fun k => match k with
  | 0 => ("FrameStreams$Wire", "bytes", "[I", true)
  | 1 => ("FrameStreams$Wire", "first", "I", false)
  | _ => ("FrameStreams$Wire", "count", "I", false)
def ty_Wire : Nat → FieldType := fun k => match k with
  | 0 => .array .int
  | 1 => .int
  | _ => .int
theorem nm_Wire : ∀ a, a < 3 → ∀ b, b < 3 → a ≠ b → (T_Wire a).2.1 ≠ (T_Wire b).2.1 := by decide +kernel
theorem tk_Wire : ∀ k, k < 3 → parseFieldDescriptor (T_Wire k).2.2.1 = some (ty_Wire k) := by decide +kernel
theorem wi_Wire : ∀ w ∈ u_ws R_Wire T_Wire 3, w ∈ lw_tbl := by decide +kernel
def R_FrameStreamsModel : String := "FrameStreamsModel"
def T_FrameStreamsModel : u_T := fun k => match k with
  | 0 => ("FrameStreamsModel", "thrown", "I", false)
  | 1 => ("FrameStreamsModel", "text", "[I", true)
  | 2 => ("FrameStreamsModel", "length", "[I", true)
  | 3 => ("FrameStreamsModel", "listed", "[I", true)
  | 4 => ("FrameStreamsModel", "list", "[I", true)
  | 5 => ("FrameStreamsModel", "tabled", "[I", true)
  | 6 => ("FrameStreamsModel", "limit", "[I", true)
  | 7 => ("FrameStreamsModel", "table", "[I", true)
  | 8 => ("FrameStreamsModel", "waiting", "[I", true)
  | 9 => ("FrameStreamsModel", "wire", "[I", true)
  | 10 => ("FrameStreamsModel", "come", "[I", true)
  | 11 => ("FrameStreamsModel", "frame", "[I", true)
  | 12 => ("FrameStreamsModel", "own", "[I", true)
  | 13 => ("FrameStreamsModel", "known", "[I", true)
  | 14 => ("FrameStreamsModel", "room", "[I", true)
  | 15 => ("FrameStreamsModel", "due", "[I", true)
  | 16 => ("FrameStreamsModel", "shut", "[I", true)
  | 17 => ("FrameStreamsModel", "away", "[I", true)
  | 18 => ("FrameStreamsModel", "answers", "[I", true)
  | 19 => ("FrameStreamsModel", "greatest", "[I", true)
  | 20 => ("FrameStreamsModel", "opened", "I", false)
  | 21 => ("FrameStreamsModel", "state", "[I", true)
  | 22 => ("FrameStreamsModel", "streamRoom", "[I", true)
  | 23 => ("FrameStreamsModel", "streamDue", "[I", true)
  | 24 => ("FrameStreamsModel", "came", "[I", true)
  | 25 => ("FrameStreamsModel", "sum", "[I", true)
  | 26 => ("FrameStreamsModel", "heardFields", "[I", true)
  | 27 => ("FrameStreamsModel", "heardField", "[I", true)
  | 28 => ("FrameStreamsModel", "one", "[I", true)
  | 29 => ("FrameStreamsModel", "block", "[I", true)
  | 30 => ("FrameStreamsModel", "blockLength", "I", false)
  | 31 => ("FrameStreamsModel", "fields", "I", false)
  | 32 => ("FrameStreamsModel", "got", "[I", true)
  | 33 => ("FrameStreamsModel", "kept", "[I", true)
  | 34 => ("FrameStreamsModel", "at", "I", false)
  | _ => ("FrameStreamsModel", "error", "I", false)
def ty_FrameStreamsModel : Nat → FieldType := fun k => match k with
  | 0 => .int
  | 1 => .array .int
  | 2 => .array .int
  | 3 => .array .int
  | 4 => .array .int
  | 5 => .array .int
  | 6 => .array .int
  | 7 => .array .int
  | 8 => .array .int
  | 9 => .array .int
  | 10 => .array .int
  | 11 => .array .int
  | 12 => .array .int
  | 13 => .array .int
  | 14 => .array .int
  | 15 => .array .int
  | 16 => .array .int
  | 17 => .array .int
  | 18 => .array .int
  | 19 => .array .int
  | 20 => .int
  | 21 => .array .int
  | 22 => .array .int
  | 23 => .array .int
  | 24 => .array .int
  | 25 => .array .int
  | 26 => .array .int
  | 27 => .array .int
  | 28 => .array .int
  | 29 => .array .int
  | 30 => .int
  | 31 => .int
  | 32 => .array .int
  | 33 => .array .int
  | 34 => .int
  | _ => .int
theorem nm_FrameStreamsModel : ∀ a, a < 36 → ∀ b, b < 36 → a ≠ b → (T_FrameStreamsModel a).2.1 ≠ (T_FrameStreamsModel b).2.1 := by decide +kernel
theorem tk_FrameStreamsModel : ∀ k, k < 36 → parseFieldDescriptor (T_FrameStreamsModel k).2.2.1 = some (ty_FrameStreamsModel k) := by decide +kernel
theorem wi_FrameStreamsModel : ∀ w ∈ u_ws R_FrameStreamsModel T_FrameStreamsModel 36, w ∈ lw_tbl := by decide +kernel
def R_Letters : String := "FrameStreams$Letters"
abbrev vwCl : List vw_C := [(R_FrameStreams, T_FrameStreams, 2), (R_BlockReader, T_BlockReader, 6), (R_BlockWriter, T_BlockWriter, 4), (R_End, T_End, 15), (R_Fields, T_Fields, 3), (R_Frame, T_Frame, 2), (R_Stream, T_Stream, 6), (R_Table, T_Table, 6), (R_Wire, T_Wire, 3), (R_FrameStreamsModel, T_FrameStreamsModel, 36)]
abbrev b_Stream_open : ByteArray := prog_9_method_2_code
def y_Stream_open : MethodName := ⟨"FrameStreams$Stream", "open", "(II)V"⟩
abbrev b_FrameStreams_letter : ByteArray := prog_1_method_2_code
def y_FrameStreams_letter : MethodName := ⟨"FrameStreams", "letter", "(II)I"⟩
abbrev b_FrameStreams_requireWithin : ByteArray := prog_1_method_16_code
def y_FrameStreams_requireWithin : MethodName := ⟨"FrameStreams", "requireWithin", "(III)V"⟩
abbrev b_FrameStreams_requireArgument : ByteArray := prog_1_method_19_code
def y_FrameStreams_requireArgument : MethodName := ⟨"FrameStreams", "requireArgument", "(Z)V"⟩
abbrev b_Letters_length : ByteArray := prog_7_method_2_code
def y_Letters_length : MethodName := ⟨"FrameStreams$Letters", "length", "(I)I"⟩
abbrev b_FrameStreams_requireState : ByteArray := prog_1_method_20_code
def y_FrameStreams_requireState : MethodName := ⟨"FrameStreams", "requireState", "(Z)V"⟩
abbrev b_Letters_append : ByteArray := prog_7_method_3_code
def y_Letters_append : MethodName := ⟨"FrameStreams$Letters", "append", "(II)I"⟩
abbrev b_FrameStreams_wipe : ByteArray := prog_1_method_3_code
def y_FrameStreams_wipe : MethodName := ⟨"FrameStreams", "wipe", "(I)I"⟩
abbrev b_FrameStreams_field : ByteArray := prog_1_method_4_code
def y_FrameStreams_field : MethodName := ⟨"FrameStreams", "field", "(III)I"⟩
abbrev b_End_isUp : ByteArray := prog_4_method_2_code
def y_End_isUp : MethodName := ⟨"FrameStreams$End", "isUp", "()Z"⟩
abbrev b_End_list : ByteArray := prog_4_method_5_code
def y_End_list : MethodName := ⟨"FrameStreams$End", "list", "()LFrameStreams$Fields;"⟩
abbrev b_Fields_count : ByteArray := prog_5_method_2_code
def y_Fields_count : MethodName := ⟨"FrameStreams$Fields", "count", "()I"⟩
abbrev b_Fields_add : ByteArray := prog_5_method_4_code
def y_Fields_add : MethodName := ⟨"FrameStreams$Fields", "add", "(II)V"⟩
abbrev b_FrameStreams_headers : ByteArray := prog_1_method_5_code
def y_FrameStreams_headers : MethodName := ⟨"FrameStreams", "headers", "(IIZ)I"⟩
abbrev b_FrameStreams_requireStreamOrConnection : ByteArray := prog_1_method_18_code
def y_FrameStreams_requireStreamOrConnection : MethodName := ⟨"FrameStreams", "requireStreamOrConnection", "(I)V"⟩
abbrev b_FrameStreams_isStream : ByteArray := prog_1_method_22_code
def y_FrameStreams_isStream : MethodName := ⟨"FrameStreams", "isStream", "(I)Z"⟩
abbrev b_End_nextStream : ByteArray := prog_4_method_8_code
def y_End_nextStream : MethodName := ⟨"FrameStreams$End", "nextStream", "()I"⟩
abbrev b_End_liveStreams : ByteArray := prog_4_method_7_code
def y_End_liveStreams : MethodName := ⟨"FrameStreams$End", "liveStreams", "()I"⟩
abbrev b_Stream_isLive : ByteArray := prog_9_method_5_code
def y_Stream_isLive : MethodName := ⟨"FrameStreams$Stream", "isLive", "()Z"⟩
abbrev b_Stream_isIdle : ByteArray := prog_9_method_3_code
def y_Stream_isIdle : MethodName := ⟨"FrameStreams$Stream", "isIdle", "()Z"⟩
abbrev b_Stream_isClosed : ByteArray := prog_9_method_4_code
def y_Stream_isClosed : MethodName := ⟨"FrameStreams$Stream", "isClosed", "()Z"⟩
abbrev b_End_find : ByteArray := prog_4_method_6_code
def y_End_find : MethodName := ⟨"FrameStreams$End", "find", "(I)LFrameStreams$Stream;"⟩
abbrev b_Stream_maySend : ByteArray := prog_9_method_6_code
def y_Stream_maySend : MethodName := ⟨"FrameStreams$Stream", "maySend", "()Z"⟩
abbrev b_End_prepareBlock : ByteArray := prog_4_method_9_code
def y_End_prepareBlock : MethodName := ⟨"FrameStreams$End", "prepareBlock", "()Z"⟩
abbrev b_BlockWriter_write : ByteArray := prog_3_method_5_code
def y_BlockWriter_write : MethodName := ⟨"FrameStreams$BlockWriter", "write", "(LFrameStreams$Fields;I)V"⟩
abbrev b_Table_copyFrom : ByteArray := prog_10_method_12_code
def y_Table_copyFrom : MethodName := ⟨"FrameStreams$Table", "copyFrom", "(LFrameStreams$Table;)V"⟩
abbrev b_Table_limit : ByteArray := prog_10_method_3_code
def y_Table_limit : MethodName := ⟨"FrameStreams$Table", "limit", "()I"⟩
abbrev b_Table_changeLimit : ByteArray := prog_10_method_4_code
def y_Table_changeLimit : MethodName := ⟨"FrameStreams$Table", "changeLimit", "(I)V"⟩
abbrev b_Table_takeOffDownTo : ByteArray := prog_10_method_6_code
def y_Table_takeOffDownTo : MethodName := ⟨"FrameStreams$Table", "takeOffDownTo", "(I)V"⟩
abbrev b_BlockWriter_put : ByteArray := prog_3_method_9_code
def y_BlockWriter_put : MethodName := ⟨"FrameStreams$BlockWriter", "put", "(I)V"⟩
abbrev b_Fields_nameAt : ByteArray := prog_5_method_5_code
def y_Fields_nameAt : MethodName := ⟨"FrameStreams$Fields", "nameAt", "(I)I"⟩
abbrev b_Fields_valueAt : ByteArray := prog_5_method_6_code
def y_Fields_valueAt : MethodName := ⟨"FrameStreams$Fields", "valueAt", "(I)I"⟩
abbrev b_BlockWriter_putField : ByteArray := prog_3_method_7_code
def y_BlockWriter_putField : MethodName := ⟨"FrameStreams$BlockWriter", "putField", "(II)V"⟩
abbrev b_Table_indexOf : ByteArray := prog_10_method_10_code
def y_Table_indexOf : MethodName := ⟨"FrameStreams$Table", "indexOf", "(II)I"⟩
abbrev b_Table_nameAt : ByteArray := prog_10_method_8_code
def y_Table_nameAt : MethodName := ⟨"FrameStreams$Table", "nameAt", "(I)I"⟩
abbrev b_Table_has : ByteArray := prog_10_method_7_code
def y_Table_has : MethodName := ⟨"FrameStreams$Table", "has", "(I)Z"⟩
abbrev b_Table_valueAt : ByteArray := prog_10_method_9_code
def y_Table_valueAt : MethodName := ⟨"FrameStreams$Table", "valueAt", "(I)I"⟩
abbrev b_Table_indexOfName : ByteArray := prog_10_method_11_code
def y_Table_indexOfName : MethodName := ⟨"FrameStreams$Table", "indexOfName", "(I)I"⟩
abbrev b_BlockWriter_putText : ByteArray := prog_3_method_8_code
def y_BlockWriter_putText : MethodName := ⟨"FrameStreams$BlockWriter", "putText", "(I)V"⟩
abbrev b_Letters_letterAt : ByteArray := prog_7_method_4_code
def y_Letters_letterAt : MethodName := ⟨"FrameStreams$Letters", "letterAt", "(II)I"⟩
abbrev b_Table_add : ByteArray := prog_10_method_5_code
def y_Table_add : MethodName := ⟨"FrameStreams$Table", "add", "(II)V"⟩
abbrev b_BlockWriter_length : ByteArray := prog_3_method_3_code
def y_BlockWriter_length : MethodName := ⟨"FrameStreams$BlockWriter", "length", "()I"⟩
abbrev b_End_maySend : ByteArray := prog_4_method_3_code
def y_End_maySend : MethodName := ⟨"FrameStreams$End", "maySend", "(I)Z"⟩
abbrev b_Wire_hasRoom : ByteArray := prog_11_method_3_code
def y_Wire_hasRoom : MethodName := ⟨"FrameStreams$Wire", "hasRoom", "(I)Z"⟩
abbrev b_End_sendHeaders : ByteArray := prog_4_method_10_code
def y_End_sendHeaders : MethodName := ⟨"FrameStreams$End", "sendHeaders", "(IZ)V"⟩
abbrev b_Wire_putHead : ByteArray := prog_11_method_5_code
def y_Wire_putHead : MethodName := ⟨"FrameStreams$Wire", "putHead", "(IIII)V"⟩
abbrev b_Wire_put : ByteArray := prog_11_method_4_code
def y_Wire_put : MethodName := ⟨"FrameStreams$Wire", "put", "(I)V"⟩
abbrev b_BlockWriter_at : ByteArray := prog_3_method_4_code
def y_BlockWriter_at : MethodName := ⟨"FrameStreams$BlockWriter", "at", "(I)I"⟩
abbrev b_BlockWriter_keep : ByteArray := prog_3_method_6_code
def y_BlockWriter_keep : MethodName := ⟨"FrameStreams$BlockWriter", "keep", "()V"⟩
abbrev b_Fields_clear : ByteArray := prog_5_method_3_code
def y_Fields_clear : MethodName := ⟨"FrameStreams$Fields", "clear", "()V"⟩
abbrev b_Stream_sendLast : ByteArray := prog_9_method_9_code
def y_Stream_sendLast : MethodName := ⟨"FrameStreams$Stream", "sendLast", "()V"⟩
abbrev b_FrameStreams_data : ByteArray := prog_1_method_6_code
def y_FrameStreams_data : MethodName := ⟨"FrameStreams", "data", "(IIIIZ)I"⟩
abbrev b_FrameStreams_requireStream : ByteArray := prog_1_method_17_code
def y_FrameStreams_requireStream : MethodName := ⟨"FrameStreams", "requireStream", "(I)V"⟩
abbrev b_Stream_room : ByteArray := prog_9_method_11_code
def y_Stream_room : MethodName := ⟨"FrameStreams$Stream", "room", "()I"⟩
abbrev b_End_sendData : ByteArray := prog_4_method_11_code
def y_End_sendData : MethodName := ⟨"FrameStreams$End", "sendData", "(IIIZ)V"⟩
abbrev b_Stream_growRoom : ByteArray := prog_9_method_12_code
def y_Stream_growRoom : MethodName := ⟨"FrameStreams$Stream", "growRoom", "(I)V"⟩
abbrev b_FrameStreams_window : ByteArray := prog_1_method_7_code
def y_FrameStreams_window : MethodName := ⟨"FrameStreams", "window", "(III)I"⟩
abbrev b_Stream_due : ByteArray := prog_9_method_13_code
def y_Stream_due : MethodName := ⟨"FrameStreams$Stream", "due", "()I"⟩
abbrev b_Stream_growDue : ByteArray := prog_9_method_14_code
def y_Stream_growDue : MethodName := ⟨"FrameStreams$Stream", "growDue", "(I)V"⟩
abbrev b_End_sendByte : ByteArray := prog_4_method_12_code
def y_End_sendByte : MethodName := ⟨"FrameStreams$End", "sendByte", "(IIII)I"⟩
abbrev b_FrameStreams_reset : ByteArray := prog_1_method_8_code
def y_FrameStreams_reset : MethodName := ⟨"FrameStreams", "reset", "(III)I"⟩
abbrev b_End_closeBy : ByteArray := prog_4_method_13_code
def y_End_closeBy : MethodName := ⟨"FrameStreams$End", "closeBy", "(II)I"⟩
abbrev b_Stream_close : ByteArray := prog_9_method_8_code
def y_Stream_close : MethodName := ⟨"FrameStreams$Stream", "close", "()V"⟩
abbrev b_FrameStreams_setting : ByteArray := prog_1_method_9_code
def y_FrameStreams_setting : MethodName := ⟨"FrameStreams", "setting", "(III)I"⟩
abbrev b_End_changeOwn : ByteArray := prog_4_method_14_code
def y_End_changeOwn : MethodName := ⟨"FrameStreams$End", "changeOwn", "(II)I"⟩
abbrev b_End_growDues : ByteArray := prog_4_method_16_code
def y_End_growDues : MethodName := ⟨"FrameStreams$End", "growDues", "(I)V"⟩
abbrev b_End_sendPair : ByteArray := prog_4_method_15_code
def y_End_sendPair : MethodName := ⟨"FrameStreams$End", "sendPair", "(III)V"⟩
abbrev b_FrameStreams_ping : ByteArray := prog_1_method_10_code
def y_FrameStreams_ping : MethodName := ⟨"FrameStreams", "ping", "(II)I"⟩
abbrev b_FrameStreams_come : ByteArray := prog_1_method_11_code
def y_FrameStreams_come : MethodName := ⟨"FrameStreams", "come", "(II)I"⟩
abbrev b_End_coming : ByteArray := prog_4_method_4_code
def y_End_coming : MethodName := ⟨"FrameStreams$End", "coming", "()LFrameStreams$Wire;"⟩
abbrev b_Wire_count : ByteArray := prog_11_method_2_code
def y_Wire_count : MethodName := ⟨"FrameStreams$Wire", "count", "()I"⟩
abbrev b_FrameStreams_requireThere : ByteArray := prog_1_method_21_code
def y_FrameStreams_requireThere : MethodName := ⟨"FrameStreams", "requireThere", "(Z)V"⟩
abbrev b_End_takeByte : ByteArray := prog_4_method_18_code
def y_End_takeByte : MethodName := ⟨"FrameStreams$End", "takeByte", "()V"⟩
abbrev b_Wire_take : ByteArray := prog_11_method_6_code
def y_Wire_take : MethodName := ⟨"FrameStreams$Wire", "take", "()I"⟩
abbrev b_Frame_add : ByteArray := prog_6_method_2_code
def y_Frame_add : MethodName := ⟨"FrameStreams$Frame", "add", "(I)V"⟩
abbrev b_Frame_isTooLong : ByteArray := prog_6_method_4_code
def y_Frame_isTooLong : MethodName := ⟨"FrameStreams$Frame", "isTooLong", "()Z"⟩
abbrev b_Frame_length : ByteArray := prog_6_method_6_code
def y_Frame_length : MethodName := ⟨"FrameStreams$Frame", "length", "()I"⟩
abbrev b_End_shut : ByteArray := prog_4_method_21_code
def y_End_shut : MethodName := ⟨"FrameStreams$End", "shut", "(I)V"⟩
abbrev b_End_hasWholeFrame : ByteArray := prog_4_method_19_code
def y_End_hasWholeFrame : MethodName := ⟨"FrameStreams$End", "hasWholeFrame", "()Z"⟩
abbrev b_Frame_isWhole : ByteArray := prog_6_method_5_code
def y_Frame_isWhole : MethodName := ⟨"FrameStreams$Frame", "isWhole", "()Z"⟩
abbrev b_End_hearFrame : ByteArray := prog_4_method_22_code
def y_End_hearFrame : MethodName := ⟨"FrameStreams$End", "hearFrame", "()I"⟩
abbrev b_Frame_isWellFormed : ByteArray := prog_6_method_12_code
def y_Frame_isWellFormed : MethodName := ⟨"FrameStreams$Frame", "isWellFormed", "()Z"⟩
abbrev b_Frame_streamNumber : ByteArray := prog_6_method_9_code
def y_Frame_streamNumber : MethodName := ⟨"FrameStreams$Frame", "streamNumber", "()I"⟩
abbrev b_Frame_type : ByteArray := prog_6_method_7_code
def y_Frame_type : MethodName := ⟨"FrameStreams$Frame", "type", "()I"⟩
abbrev b_Frame_isFlagged : ByteArray := prog_6_method_8_code
def y_Frame_isFlagged : MethodName := ⟨"FrameStreams$Frame", "isFlagged", "()Z"⟩
abbrev b_End_hearData : ByteArray := prog_4_method_24_code
def y_End_hearData : MethodName := ⟨"FrameStreams$End", "hearData", "()I"⟩
abbrev b_Stream_mayHear : ByteArray := prog_9_method_7_code
def y_Stream_mayHear : MethodName := ⟨"FrameStreams$Stream", "mayHear", "()Z"⟩
abbrev b_Frame_sum : ByteArray := prog_6_method_11_code
def y_Frame_sum : MethodName := ⟨"FrameStreams$Frame", "sum", "()I"⟩
abbrev b_Stream_takeData : ByteArray := prog_9_method_15_code
def y_Stream_takeData : MethodName := ⟨"FrameStreams$Stream", "takeData", "(II)V"⟩
abbrev b_Stream_hearLast : ByteArray := prog_9_method_10_code
def y_Stream_hearLast : MethodName := ⟨"FrameStreams$Stream", "hearLast", "()V"⟩
abbrev b_End_hearHeaders : ByteArray := prog_4_method_23_code
def y_End_hearHeaders : MethodName := ⟨"FrameStreams$End", "hearHeaders", "()I"⟩
abbrev b_BlockReader_read : ByteArray := prog_2_method_4_code
def y_BlockReader_read : MethodName := ⟨"FrameStreams$BlockReader", "read", "(I)Z"⟩
abbrev b_BlockReader_readLimits : ByteArray := prog_2_method_6_code
def y_BlockReader_readLimits : MethodName := ⟨"FrameStreams$BlockReader", "readLimits", "(I)V"⟩
abbrev b_BlockReader_hasMore : ByteArray := prog_2_method_5_code
def y_BlockReader_hasMore : MethodName := ⟨"FrameStreams$BlockReader", "hasMore", "()Z"⟩
abbrev b_Frame_at : ByteArray := prog_6_method_10_code
def y_Frame_at : MethodName := ⟨"FrameStreams$Frame", "at", "(I)I"⟩
abbrev b_BlockReader_readField : ByteArray := prog_2_method_7_code
def y_BlockReader_readField : MethodName := ⟨"FrameStreams$BlockReader", "readField", "()V"⟩
abbrev b_BlockReader_nextByte : ByteArray := prog_2_method_10_code
def y_BlockReader_nextByte : MethodName := ⟨"FrameStreams$BlockReader", "nextByte", "()I"⟩
abbrev b_BlockReader_readIndexed : ByteArray := prog_2_method_8_code
def y_BlockReader_readIndexed : MethodName := ⟨"FrameStreams$BlockReader", "readIndexed", "(I)V"⟩
abbrev b_BlockReader_readText : ByteArray := prog_2_method_9_code
def y_BlockReader_readText : MethodName := ⟨"FrameStreams$BlockReader", "readText", "()I"⟩
abbrev b_Letters_isLetter : ByteArray := prog_7_method_5_code
def y_Letters_isLetter : MethodName := ⟨"FrameStreams$Letters", "isLetter", "(I)Z"⟩
abbrev b_Stream_fields : ByteArray := prog_9_method_16_code
def y_Stream_fields : MethodName := ⟨"FrameStreams$Stream", "fields", "()LFrameStreams$Fields;"⟩
abbrev b_BlockReader_fields : ByteArray := prog_2_method_3_code
def y_BlockReader_fields : MethodName := ⟨"FrameStreams$BlockReader", "fields", "()LFrameStreams$Fields;"⟩
abbrev b_Fields_copyFrom : ByteArray := prog_5_method_7_code
def y_Fields_copyFrom : MethodName := ⟨"FrameStreams$Fields", "copyFrom", "(LFrameStreams$Fields;)V"⟩
abbrev b_End_hearReset : ByteArray := prog_4_method_25_code
def y_End_hearReset : MethodName := ⟨"FrameStreams$End", "hearReset", "()I"⟩
abbrev b_End_hearSettings : ByteArray := prog_4_method_26_code
def y_End_hearSettings : MethodName := ⟨"FrameStreams$End", "hearSettings", "()I"⟩
abbrev b_End_growRooms : ByteArray := prog_4_method_17_code
def y_End_growRooms : MethodName := ⟨"FrameStreams$End", "growRooms", "(I)V"⟩
abbrev b_End_hearPing : ByteArray := prog_4_method_27_code
def y_End_hearPing : MethodName := ⟨"FrameStreams$End", "hearPing", "()I"⟩
abbrev b_End_hearWindow : ByteArray := prog_4_method_28_code
def y_End_hearWindow : MethodName := ⟨"FrameStreams$End", "hearWindow", "()I"⟩
abbrev b_End_endFrame : ByteArray := prog_4_method_20_code
def y_End_endFrame : MethodName := ⟨"FrameStreams$End", "endFrame", "(I)V"⟩
abbrev b_Frame_clear : ByteArray := prog_6_method_3_code
def y_Frame_clear : MethodName := ⟨"FrameStreams$Frame", "clear", "()V"⟩
abbrev b_FrameStreams_alter : ByteArray := prog_1_method_12_code
def y_FrameStreams_alter : MethodName := ⟨"FrameStreams", "alter", "(III)I"⟩
abbrev b_Wire_flip : ByteArray := prog_11_method_7_code
def y_Wire_flip : MethodName := ⟨"FrameStreams$Wire", "flip", "(II)I"⟩
abbrev b_FrameStreams_stream : ByteArray := prog_1_method_13_code
def y_FrameStreams_stream : MethodName := ⟨"FrameStreams", "stream", "(III)I"⟩
abbrev b_Stream_tell : ByteArray := prog_9_method_17_code
def y_Stream_tell : MethodName := ⟨"FrameStreams$Stream", "tell", "(I)I"⟩
abbrev b_FrameStreams_heard : ByteArray := prog_1_method_14_code
def y_FrameStreams_heard : MethodName := ⟨"FrameStreams", "heard", "(IIIZI)I"⟩
abbrev b_FrameStreams_end : ByteArray := prog_1_method_15_code
def y_FrameStreams_end : MethodName := ⟨"FrameStreams", "end", "(II)I"⟩
abbrev b_End_tell : ByteArray := prog_4_method_29_code
def y_End_tell : MethodName := ⟨"FrameStreams$End", "tell", "(I)I"⟩
abbrev b_BlockWriter_table : ByteArray := prog_3_method_2_code
def y_BlockWriter_table : MethodName := ⟨"FrameStreams$BlockWriter", "table", "()LFrameStreams$Table;"⟩
abbrev b_Table_count : ByteArray := prog_10_method_2_code
def y_Table_count : MethodName := ⟨"FrameStreams$Table", "count", "()I"⟩
abbrev b_BlockReader_table : ByteArray := prog_2_method_2_code
def y_BlockReader_table : MethodName := ⟨"FrameStreams$BlockReader", "table", "()LFrameStreams$Table;"⟩
abbrev b_End_tellKnown : ByteArray := prog_4_method_30_code
def y_End_tellKnown : MethodName := ⟨"FrameStreams$End", "tellKnown", "(I)I"⟩
abbrev b_FrameStreamsModel_thrown : ByteArray := prog_13_method_2_code
def y_FrameStreamsModel_thrown : MethodName := ⟨"FrameStreamsModel", "thrown", "()I"⟩
abbrev b_FrameStreamsModel_letter : ByteArray := prog_13_method_8_code
def y_FrameStreamsModel_letter : MethodName := ⟨"FrameStreamsModel", "letter", "(II)I"⟩
abbrev b_FrameStreamsModel_in : ByteArray := prog_13_method_5_code
def y_FrameStreamsModel_in : MethodName := ⟨"FrameStreamsModel", "in", "(III)Z"⟩
abbrev b_FrameStreamsModel_fail : ByteArray := prog_13_method_3_code
def y_FrameStreamsModel_fail : MethodName := ⟨"FrameStreamsModel", "fail", "(I)I"⟩
abbrev b_FrameStreamsModel_give : ByteArray := prog_13_method_4_code
def y_FrameStreamsModel_give : MethodName := ⟨"FrameStreamsModel", "give", "(I)I"⟩
abbrev b_FrameStreamsModel_wipe : ByteArray := prog_13_method_9_code
def y_FrameStreamsModel_wipe : MethodName := ⟨"FrameStreamsModel", "wipe", "(I)I"⟩
abbrev b_FrameStreamsModel_field : ByteArray := prog_13_method_10_code
def y_FrameStreamsModel_field : MethodName := ⟨"FrameStreamsModel", "field", "(III)I"⟩
abbrev b_FrameStreamsModel_come : ByteArray := prog_13_method_50_code
def y_FrameStreamsModel_come : MethodName := ⟨"FrameStreamsModel", "come", "(II)I"⟩
abbrev b_FrameStreamsModel_byteIn : ByteArray := prog_13_method_49_code
def y_FrameStreamsModel_byteIn : MethodName := ⟨"FrameStreamsModel", "byteIn", "(I)I"⟩
abbrev b_FrameStreamsModel_hearFrame : ByteArray := prog_13_method_48_code
def y_FrameStreamsModel_hearFrame : MethodName := ⟨"FrameStreamsModel", "hearFrame", "(I)Z"⟩
abbrev b_FrameStreamsModel_shapeRight : ByteArray := prog_13_method_41_code
def y_FrameStreamsModel_shapeRight : MethodName := ⟨"FrameStreamsModel", "shapeRight", "(IIII)Z"⟩
abbrev b_FrameStreamsModel_isStream : ByteArray := prog_13_method_6_code
def y_FrameStreamsModel_isStream : MethodName := ⟨"FrameStreamsModel", "isStream", "(I)Z"⟩
abbrev b_FrameStreamsModel_bad : ByteArray := prog_13_method_40_code
def y_FrameStreamsModel_bad : MethodName := ⟨"FrameStreamsModel", "bad", "(I)Z"⟩
abbrev b_FrameStreamsModel_hearData : ByteArray := prog_13_method_43_code
def y_FrameStreamsModel_hearData : MethodName := ⟨"FrameStreamsModel", "hearData", "(IIII)Z"⟩
abbrev b_FrameStreamsModel_place : ByteArray := prog_13_method_7_code
def y_FrameStreamsModel_place : MethodName := ⟨"FrameStreamsModel", "place", "(II)I"⟩
abbrev b_FrameStreamsModel_refuse : ByteArray := prog_13_method_39_code
def y_FrameStreamsModel_refuse : MethodName := ⟨"FrameStreamsModel", "refuse", "(III)Z"⟩
abbrev b_FrameStreamsModel_reply : ByteArray := prog_13_method_32_code
def y_FrameStreamsModel_reply : MethodName := ⟨"FrameStreamsModel", "reply", "(IIIIII)Z"⟩
abbrev b_FrameStreamsModel_noRoom : ByteArray := prog_13_method_29_code
def y_FrameStreamsModel_noRoom : MethodName := ⟨"FrameStreamsModel", "noRoom", "(II)Z"⟩
abbrev b_FrameStreamsModel_head : ByteArray := prog_13_method_31_code
def y_FrameStreamsModel_head : MethodName := ⟨"FrameStreamsModel", "head", "(IIIII)V"⟩
abbrev b_FrameStreamsModel_byteOut : ByteArray := prog_13_method_30_code
def y_FrameStreamsModel_byteOut : MethodName := ⟨"FrameStreamsModel", "byteOut", "(II)V"⟩
abbrev b_FrameStreamsModel_heardLast : ByteArray := prog_13_method_38_code
def y_FrameStreamsModel_heardLast : MethodName := ⟨"FrameStreamsModel", "heardLast", "(I)V"⟩
abbrev b_FrameStreamsModel_hearHeaders : ByteArray := prog_13_method_42_code
def y_FrameStreamsModel_hearHeaders : MethodName := ⟨"FrameStreamsModel", "hearHeaders", "(III)Z"⟩
abbrev b_FrameStreamsModel_hearBlock : ByteArray := prog_13_method_28_code
def y_FrameStreamsModel_hearBlock : MethodName := ⟨"FrameStreamsModel", "hearBlock", "(I)Z"⟩
abbrev b_FrameStreamsModel_hearOne : ByteArray := prog_13_method_27_code
def y_FrameStreamsModel_hearOne : MethodName := ⟨"FrameStreamsModel", "hearOne", "(II)Z"⟩
abbrev b_FrameStreamsModel_wrong : ByteArray := prog_13_method_24_code
def y_FrameStreamsModel_wrong : MethodName := ⟨"FrameStreamsModel", "wrong", "()Z"⟩
abbrev b_FrameStreamsModel_lower : ByteArray := prog_13_method_15_code
def y_FrameStreamsModel_lower : MethodName := ⟨"FrameStreamsModel", "lower", "(II)V"⟩
abbrev b_FrameStreamsModel_sizes : ByteArray := prog_13_method_14_code
def y_FrameStreamsModel_sizes : MethodName := ⟨"FrameStreamsModel", "sizes", "(I)I"⟩
abbrev b_FrameStreamsModel_size : ByteArray := prog_13_method_13_code
def y_FrameStreamsModel_size : MethodName := ⟨"FrameStreamsModel", "size", "(II)I"⟩
abbrev b_FrameStreamsModel_fetch : ByteArray := prog_13_method_11_code
def y_FrameStreamsModel_fetch : MethodName := ⟨"FrameStreamsModel", "fetch", "(II)Z"⟩
abbrev b_FrameStreamsModel_spell : ByteArray := prog_13_method_12_code
def y_FrameStreamsModel_spell : MethodName := ⟨"FrameStreamsModel", "spell", "(III)V"⟩
abbrev b_FrameStreamsModel_hearLiteral : ByteArray := prog_13_method_26_code
def y_FrameStreamsModel_hearLiteral : MethodName := ⟨"FrameStreamsModel", "hearLiteral", "(II)Z"⟩
abbrev b_FrameStreamsModel_hearString : ByteArray := prog_13_method_25_code
def y_FrameStreamsModel_hearString : MethodName := ⟨"FrameStreamsModel", "hearString", "(III)Z"⟩
abbrev b_FrameStreamsModel_add : ByteArray := prog_13_method_16_code
def y_FrameStreamsModel_add : MethodName := ⟨"FrameStreamsModel", "add", "(I)V"⟩
abbrev b_FrameStreamsModel_busyStreams : ByteArray := prog_13_method_35_code
def y_FrameStreamsModel_busyStreams : MethodName := ⟨"FrameStreamsModel", "busyStreams", "(I)I"⟩
abbrev b_FrameStreamsModel_busy : ByteArray := prog_13_method_34_code
def y_FrameStreamsModel_busy : MethodName := ⟨"FrameStreamsModel", "busy", "(I)Z"⟩
abbrev b_FrameStreamsModel_open : ByteArray := prog_13_method_36_code
def y_FrameStreamsModel_open : MethodName := ⟨"FrameStreamsModel", "open", "(III)V"⟩
abbrev b_FrameStreamsModel_hearSetting : ByteArray := prog_13_method_45_code
def y_FrameStreamsModel_hearSetting : MethodName := ⟨"FrameStreamsModel", "hearSetting", "(IIII)Z"⟩
abbrev b_FrameStreamsModel_settingRight : ByteArray := prog_13_method_44_code
def y_FrameStreamsModel_settingRight : MethodName := ⟨"FrameStreamsModel", "settingRight", "(II)Z"⟩
abbrev b_FrameStreamsModel_hearPing : ByteArray := prog_13_method_47_code
def y_FrameStreamsModel_hearPing : MethodName := ⟨"FrameStreamsModel", "hearPing", "(III)Z"⟩
abbrev b_FrameStreamsModel_hearWindow : ByteArray := prog_13_method_46_code
def y_FrameStreamsModel_hearWindow : MethodName := ⟨"FrameStreamsModel", "hearWindow", "(III)Z"⟩
abbrev b_FrameStreamsModel_fallen : ByteArray := prog_13_method_33_code
def y_FrameStreamsModel_fallen : MethodName := ⟨"FrameStreamsModel", "fallen", "(II)I"⟩
abbrev b_FrameStreamsModel_headers : ByteArray := prog_13_method_53_code
def y_FrameStreamsModel_headers : MethodName := ⟨"FrameStreamsModel", "headers", "(IIZ)I"⟩
abbrev b_FrameStreamsModel_mayOpen : ByteArray := prog_13_method_51_code
def y_FrameStreamsModel_mayOpen : MethodName := ⟨"FrameStreamsModel", "mayOpen", "(I)Z"⟩
abbrev b_FrameStreamsModel_maySend : ByteArray := prog_13_method_52_code
def y_FrameStreamsModel_maySend : MethodName := ⟨"FrameStreamsModel", "maySend", "(II)Z"⟩
abbrev b_FrameStreamsModel_keep : ByteArray := prog_13_method_23_code
def y_FrameStreamsModel_keep : MethodName := ⟨"FrameStreamsModel", "keep", "(IZ)V"⟩
abbrev b_FrameStreamsModel_putBlock : ByteArray := prog_13_method_22_code
def y_FrameStreamsModel_putBlock : MethodName := ⟨"FrameStreamsModel", "putBlock", "(I)V"⟩
abbrev b_FrameStreamsModel_put : ByteArray := prog_13_method_19_code
def y_FrameStreamsModel_put : MethodName := ⟨"FrameStreamsModel", "put", "(I)V"⟩
abbrev b_FrameStreamsModel_putField : ByteArray := prog_13_method_21_code
def y_FrameStreamsModel_putField : MethodName := ⟨"FrameStreamsModel", "putField", "(II)V"⟩
abbrev b_FrameStreamsModel_indexOf : ByteArray := prog_13_method_18_code
def y_FrameStreamsModel_indexOf : MethodName := ⟨"FrameStreamsModel", "indexOf", "(IIZ)I"⟩
abbrev b_FrameStreamsModel_alike : ByteArray := prog_13_method_17_code
def y_FrameStreamsModel_alike : MethodName := ⟨"FrameStreamsModel", "alike", "(IZ)Z"⟩
abbrev b_FrameStreamsModel_putString : ByteArray := prog_13_method_20_code
def y_FrameStreamsModel_putString : MethodName := ⟨"FrameStreamsModel", "putString", "(II)V"⟩
abbrev b_FrameStreamsModel_sentLast : ByteArray := prog_13_method_37_code
def y_FrameStreamsModel_sentLast : MethodName := ⟨"FrameStreamsModel", "sentLast", "(I)V"⟩
abbrev b_FrameStreamsModel_data : ByteArray := prog_13_method_54_code
def y_FrameStreamsModel_data : MethodName := ⟨"FrameStreamsModel", "data", "(IIIIZ)I"⟩
abbrev b_FrameStreamsModel_window : ByteArray := prog_13_method_55_code
def y_FrameStreamsModel_window : MethodName := ⟨"FrameStreamsModel", "window", "(III)I"⟩
abbrev b_FrameStreamsModel_reset : ByteArray := prog_13_method_56_code
def y_FrameStreamsModel_reset : MethodName := ⟨"FrameStreamsModel", "reset", "(III)I"⟩
abbrev b_FrameStreamsModel_setting : ByteArray := prog_13_method_57_code
def y_FrameStreamsModel_setting : MethodName := ⟨"FrameStreamsModel", "setting", "(III)I"⟩
abbrev b_FrameStreamsModel_ping : ByteArray := prog_13_method_58_code
def y_FrameStreamsModel_ping : MethodName := ⟨"FrameStreamsModel", "ping", "(II)I"⟩
abbrev b_FrameStreamsModel_alter : ByteArray := prog_13_method_59_code
def y_FrameStreamsModel_alter : MethodName := ⟨"FrameStreamsModel", "alter", "(III)I"⟩
abbrev b_FrameStreamsModel_stream : ByteArray := prog_13_method_60_code
def y_FrameStreamsModel_stream : MethodName := ⟨"FrameStreamsModel", "stream", "(III)I"⟩
abbrev b_FrameStreamsModel_heard : ByteArray := prog_13_method_61_code
def y_FrameStreamsModel_heard : MethodName := ⟨"FrameStreamsModel", "heard", "(IIIZI)I"⟩
abbrev b_FrameStreamsModel_end : ByteArray := prog_13_method_62_code
def y_FrameStreamsModel_end : MethodName := ⟨"FrameStreamsModel", "end", "(II)I"⟩
end
section
/-! the good words of the tables; those of the nest -/
def GWS : List Cond := lw_tbl.filter goodWord
def isNw (w : Cond) : Bool := match w with
  | .fieldLinkNest .. => true
  | .methodLinkNest .. => true
  | .declares .. => true
  | .castable .. => true
  | _ => false
def NWS : List Cond := lw_tbl.filter isNw
theorem GWS_good (w : Cond) (h : w ∈ GWS) : goodWord w = true := (List.mem_filter.mp h).2
theorem GWS_of {w : Cond} (h : w ∈ lw_tbl) (g : goodWord w = true) : w ∈ GWS := List.mem_filter.mpr ⟨h, g⟩
theorem NWS_on (w : Cond) (h : w ∈ NWS) : w.onTables = true := by
  have h2 := (List.mem_filter.mp h).2
  cases w <;> first | rfl | (simp [isNw] at h2)
/-! the places' shapes -/
abbrev Shp : Type := (Nat × List (Option (Nat × Nat))) ⊕ (Nat × Nat × Nat × Nat)
def SH (k : Nat) : Shp := match k with
  | 0 => .inl (0, [some (1, 2), some (2, 2)])
  | 1 => .inr (0, 8, (0, 0))
  | 2 => .inr (2, 2, (7, 3))
  | 3 => .inl (8, [some (4, 0), none, none])
  | 4 => .inr (0, 240, (0, 0))
  | 7 => .inl (3, [none, some (3, 0), some (3, 1), some (8, 0), some (10, 0), some (13, 0), some (23, 0), some (31, 0), some (33, 0), some (34, 0), none, none, none, none, none])
  | 8 => .inl (5, [some (9, 0), none])
  | 9 => .inr (0, 44, (0, 0))
  | 10 => .inl (4, [some (11, 0), some (12, 0), none])
  | 11 => .inr (0, 5, (0, 0))
  | 12 => .inr (0, 5, (0, 0))
  | 13 => .inl (2, [some (14, 0), some (18, 0), some (22, 0), none])
  | 14 => .inl (7, [some (15, 0), some (16, 0), some (17, 0), none, none, none])
  | 15 => .inr (0, 8, (0, 0))
  | 16 => .inr (0, 8, (0, 0))
  | 17 => .inr (0, 8, (0, 0))
  | 18 => .inl (7, [some (19, 0), some (20, 0), some (21, 0), none, none, none])
  | 19 => .inr (0, 8, (0, 0))
  | 20 => .inr (0, 8, (0, 0))
  | 21 => .inr (0, 8, (0, 0))
  | 22 => .inr (0, 76, (0, 0))
  | 23 => .inl (1, [some (8, 0), some (24, 0), some (28, 0), none, none, none])
  | 24 => .inl (7, [some (25, 0), some (26, 0), some (27, 0), none, none, none])
  | 25 => .inr (0, 8, (0, 0))
  | 26 => .inr (0, 8, (0, 0))
  | 27 => .inr (0, 8, (0, 0))
  | 28 => .inl (4, [some (29, 0), some (30, 0), none])
  | 29 => .inr (0, 5, (0, 0))
  | 30 => .inr (0, 5, (0, 0))
  | 31 => .inr (3, 8, (32, 4))
  | 32 => .inl (6, [some (35, 0), none, none, none, none, none])
  | 33 => .inr (0, 3, (0, 0))
  | 34 => .inr (0, 3, (0, 0))
  | 35 => .inl (4, [some (36, 0), some (37, 0), none])
  | 36 => .inr (0, 5, (0, 0))
  | 37 => .inr (0, 5, (0, 0))
  | 100 => .inl (9, [none, some (101, 2), some (102, 2), some (103, 2), some (104, 2), some (105, 2), some (106, 2), some (107, 2), some (108, 2), some (109, 2), some (110, 2), some (111, 2), some (112, 2), some (113, 2), some (114, 2), some (115, 2), some (116, 2), some (117, 2), some (118, 2), some (119, 2), none, some (121, 2), some (122, 2), some (123, 2), some (124, 2), some (125, 2), some (126, 2), some (127, 2), some (128, 2), some (129, 2), none, none, some (132, 2), some (133, 2), none, none])
  | 101 => .inr (0, 48, (0, 0))
  | 102 => .inr (0, 8, (0, 0))
  | 103 => .inr (0, 2, (0, 0))
  | 104 => .inr (0, 140, (0, 0))
  | 105 => .inr (0, 4, (0, 0))
  | 106 => .inr (0, 4, (0, 0))
  | 107 => .inr (0, 560, (0, 0))
  | 108 => .inr (0, 2, (0, 0))
  | 109 => .inr (0, 480, (0, 0))
  | 110 => .inr (0, 2, (0, 0))
  | 111 => .inr (0, 100, (0, 0))
  | 112 => .inr (0, 6, (0, 0))
  | 113 => .inr (0, 6, (0, 0))
  | 114 => .inr (0, 2, (0, 0))
  | 115 => .inr (0, 2, (0, 0))
  | 116 => .inr (0, 2, (0, 0))
  | 117 => .inr (0, 2, (0, 0))
  | 118 => .inr (0, 2, (0, 0))
  | 119 => .inr (0, 2, (0, 0))
  | 121 => .inr (0, 14, (0, 0))
  | 122 => .inr (0, 14, (0, 0))
  | 123 => .inr (0, 14, (0, 0))
  | 124 => .inr (0, 14, (0, 0))
  | 125 => .inr (0, 14, (0, 0))
  | 126 => .inr (0, 14, (0, 0))
  | 127 => .inr (0, 980, (0, 0))
  | 128 => .inr (0, 14, (0, 0))
  | 129 => .inr (0, 120, (0, 0))
  | 132 => .inr (0, 70, (0, 0))
  | 133 => .inr (0, 142, (0, 0))
  | 140 => .inr (1, 1, (0, 0))
  | 200 => .inr (9, 3, (0, 0))
  | 201 => .inr (9, 3, (0, 0))
  | 202 => .inr (9, 5, (0, 0))
  | 203 => .inr (9, 5, (0, 0))
  | _ => .inl (999, [])
def EL (k : Nat) : Nat := match k with
  | 0 => 1
  | 1 => 1
  | 2 => 1
  | 3 => 2
  | 4 => 2
  | 7 => 2
  | 8 => 2
  | 9 => 2
  | 10 => 2
  | 11 => 2
  | 12 => 2
  | 13 => 2
  | 14 => 2
  | 15 => 2
  | 16 => 2
  | 17 => 2
  | 18 => 2
  | 19 => 2
  | 20 => 2
  | 21 => 2
  | 22 => 2
  | 23 => 2
  | 24 => 2
  | 25 => 2
  | 26 => 2
  | 27 => 2
  | 28 => 2
  | 29 => 2
  | 30 => 2
  | 31 => 2
  | 32 => 2
  | 33 => 2
  | 34 => 2
  | 35 => 2
  | 36 => 2
  | 37 => 2
  | 100 => 1
  | 101 => 1
  | 102 => 1
  | 103 => 1
  | 104 => 1
  | 105 => 1
  | 106 => 1
  | 107 => 1
  | 108 => 1
  | 109 => 1
  | 110 => 1
  | 111 => 1
  | 112 => 1
  | 113 => 1
  | 114 => 1
  | 115 => 1
  | 116 => 1
  | 117 => 1
  | 118 => 1
  | 119 => 1
  | 121 => 1
  | 122 => 1
  | 123 => 1
  | 124 => 1
  | 125 => 1
  | 126 => 1
  | 127 => 1
  | 128 => 1
  | 129 => 1
  | 132 => 1
  | 133 => 1
  | 140 => 1
  | 200 => 1
  | 201 => 1
  | 202 => 1
  | 203 => 1
  | _ => 0
def IL (k : Nat) : Nat := match k with
  | 0 => 1
  | 1 => 1
  | 2 => 1
  | 3 => 1
  | 4 => 1
  | 7 => 1
  | 8 => 1
  | 9 => 1
  | 10 => 1
  | 11 => 1
  | 12 => 1
  | 13 => 1
  | 14 => 1
  | 15 => 1
  | 16 => 1
  | 17 => 1
  | 18 => 1
  | 19 => 1
  | 20 => 1
  | 21 => 1
  | 22 => 1
  | 23 => 1
  | 24 => 1
  | 25 => 1
  | 26 => 1
  | 27 => 1
  | 28 => 1
  | 29 => 1
  | 30 => 1
  | 31 => 1
  | 32 => 8
  | 33 => 1
  | 34 => 1
  | 35 => 8
  | 36 => 8
  | 37 => 8
  | 100 => 1
  | 101 => 1
  | 102 => 1
  | 103 => 1
  | 104 => 1
  | 105 => 1
  | 106 => 1
  | 107 => 1
  | 108 => 1
  | 109 => 1
  | 110 => 1
  | 111 => 1
  | 112 => 1
  | 113 => 1
  | 114 => 1
  | 115 => 1
  | 116 => 1
  | 117 => 1
  | 118 => 1
  | 119 => 1
  | 121 => 1
  | 122 => 1
  | 123 => 1
  | 124 => 1
  | 125 => 1
  | 126 => 1
  | 127 => 1
  | 128 => 1
  | 129 => 1
  | 132 => 1
  | 133 => 1
  | 140 => 1
  | 200 => 1
  | 201 => 1
  | 202 => 1
  | 203 => 1
  | _ => 0
def isSt (k : Nat) : Bool := Nat.ble 200 k && Nat.ble k 203
def sv (k j : Nat) : Int := match k with
  | 200 => ([3, 16, 2] : List Int).getD j 0
  | 201 => ([6, 60, 7] : List Int).getD j 0
  | 202 => ([13, 13, 16, 19, 19] : List Int).getD j 0
  | 203 => ([20647, 21168, 0, 367, 494] : List Int).getD j 0
  | _ => 0
def PLs : List (Nat × Nat × Nat) := [(0, 0, 0), (1, 0, 0), (2, 0, 0), (3, 0, 0), (3, 1, 0), (4, 0, 0), (4, 1, 0), (7, 0, 0), (7, 1, 0), (8, 0, 0), (8, 1, 0), (9, 0, 0), (9, 1, 0), (10, 0, 0), (10, 1, 0), (11, 0, 0), (11, 1, 0), (12, 0, 0), (12, 1, 0), (13, 0, 0), (13, 1, 0), (14, 0, 0), (14, 1, 0), (15, 0, 0), (15, 1, 0), (16, 0, 0), (16, 1, 0), (17, 0, 0), (17, 1, 0), (18, 0, 0), (18, 1, 0), (19, 0, 0), (19, 1, 0), (20, 0, 0), (20, 1, 0), (21, 0, 0), (21, 1, 0), (22, 0, 0), (22, 1, 0), (23, 0, 0), (23, 1, 0), (24, 0, 0), (24, 1, 0), (25, 0, 0), (25, 1, 0), (26, 0, 0), (26, 1, 0), (27, 0, 0), (27, 1, 0), (28, 0, 0), (28, 1, 0), (29, 0, 0), (29, 1, 0), (30, 0, 0), (30, 1, 0), (31, 0, 0), (31, 1, 0), (32, 0, 0), (32, 0, 1), (32, 0, 2), (32, 0, 3), (32, 0, 4), (32, 0, 5), (32, 0, 6), (32, 0, 7), (32, 1, 0), (32, 1, 1), (32, 1, 2), (32, 1, 3), (32, 1, 4), (32, 1, 5), (32, 1, 6), (32, 1, 7), (33, 0, 0), (33, 1, 0), (34, 0, 0), (34, 1, 0), (35, 0, 0), (35, 0, 1), (35, 0, 2), (35, 0, 3), (35, 0, 4), (35, 0, 5), (35, 0, 6), (35, 0, 7), (35, 1, 0), (35, 1, 1), (35, 1, 2), (35, 1, 3), (35, 1, 4), (35, 1, 5), (35, 1, 6), (35, 1, 7), (36, 0, 0), (36, 0, 1), (36, 0, 2), (36, 0, 3), (36, 0, 4), (36, 0, 5), (36, 0, 6), (36, 0, 7), (36, 1, 0), (36, 1, 1), (36, 1, 2), (36, 1, 3), (36, 1, 4), (36, 1, 5), (36, 1, 6), (36, 1, 7), (37, 0, 0), (37, 0, 1), (37, 0, 2), (37, 0, 3), (37, 0, 4), (37, 0, 5), (37, 0, 6), (37, 0, 7), (37, 1, 0), (37, 1, 1), (37, 1, 2), (37, 1, 3), (37, 1, 4), (37, 1, 5), (37, 1, 6), (37, 1, 7), (100, 0, 0), (101, 0, 0), (102, 0, 0), (103, 0, 0), (104, 0, 0), (105, 0, 0), (106, 0, 0), (107, 0, 0), (108, 0, 0), (109, 0, 0), (110, 0, 0), (111, 0, 0), (112, 0, 0), (113, 0, 0), (114, 0, 0), (115, 0, 0), (116, 0, 0), (117, 0, 0), (118, 0, 0), (119, 0, 0), (121, 0, 0), (122, 0, 0), (123, 0, 0), (124, 0, 0), (125, 0, 0), (126, 0, 0), (127, 0, 0), (128, 0, 0), (129, 0, 0), (132, 0, 0), (133, 0, 0), (140, 0, 0)]
def STL : List (Nat × String × String) := [(200, "FrameStreams", "FIRST_SETTINGS"), (201, "FrameStreams", "GREATEST_SETTINGS"), (202, "FrameStreams$Table", "FIXED_NAMES"), (203, "FrameStreams$Table", "FIXED_VALUES")]
def TY (cA : Nat → ClassId) : List (ClassId × FieldType) := [(cA 0, .int), (cA 1, .long), (cA 2, .object "FrameStreams$End"), (cA 3, .object "FrameStreams$Stream")]
theorem PL_nd : PLs.Nodup := by decide +kernel
theorem PL_inj (i j : Nat) (q : Nat × Nat × Nat) (hi : PLs[i]? = some q) (hj : PLs[j]? = some q) : i = j := by
  obtain ⟨h1, e1⟩ := List.getElem?_eq_some_iff.mp hi
  obtain ⟨h2, e2⟩ := List.getElem?_eq_some_iff.mp hj
  exact (List.getElem_inj PL_nd).mp (e1.trans e2.symm)
theorem EL_b (k e : Nat) (h : e < EL k) : e < 2 ∧ (k < 141 ∨ isSt k = true) := by
  unfold EL at h
  split at h <;> first | exact ⟨by omega, Or.inl (by decide)⟩ | exact ⟨by omega, Or.inr rfl⟩ | exact absurd h (Nat.not_lt_zero _)
theorem IL_b (k i : Nat) (h : i < IL k) : i < 8 := by
  unfold IL at h
  split at h <;> omega
theorem PL_chk : (List.range 141).all (fun k => (List.range 2).all (fun e => (List.range 8).all (fun i => !(Nat.blt e (EL k)) || !(Nat.blt i (IL k)) || decide ((k, e, i) ∈ PLs)))) = true := by decide +kernel
theorem PL_all (k : Nat) (hk : k < 141) (e : Nat) (he : e < 2) (i : Nat) (hi : i < 8) (h1 : e < EL k) (h2 : i < IL k) : (k, e, i) ∈ PLs := by
  have a1 := List.all_eq_true.mp PL_chk k (List.mem_range.mpr hk)
  have a2 := List.all_eq_true.mp a1 e (List.mem_range.mpr he)
  have a3 := List.all_eq_true.mp a2 i (List.mem_range.mpr hi)
  have b1 : Nat.blt e (EL k) = true := Nat.ble_eq_true_of_le h1
  have b2 : Nat.blt i (IL k) = true := Nat.ble_eq_true_of_le h2
  rw [b1, b2] at a3
  simpa using a3
theorem PL_mem (k e i : Nat) (h1 : e < EL k) (h2 : i < IL k) (h3 : isSt k = false) : (k, e, i) ∈ PLs := by
  obtain ⟨h4, h5⟩ := EL_b k e h1
  rcases h5 with h5 | h5
  · exact PL_all k h5 e h4 i (IL_b k i h2) h1 h2
  · rw [h3] at h5; cases h5
theorem isSt_x {k : Nat} (h0 : ¬ k = 200) (h1 : ¬ k = 201) (h2 : ¬ k = 202) (h3 : ¬ k = 203) : isSt k = false := by
  unfold isSt
  rw [Bool.and_eq_false_iff]
  rcases Nat.lt_or_ge k 200 with h | h
  · left
    cases hb : Nat.ble 200 k
    · rfl
    · have := Nat.le_of_ble_eq_true hb; omega
  · right
    cases hb : Nat.ble k 203
    · rfl
    · have := Nat.le_of_ble_eq_true hb; omega
theorem isSt_o {k ci : Nat} {sl : List (Option (Nat × Nat))} (h : SH k = .inl (ci, sl)) : isSt k = false := by
  unfold SH at h
  split at h <;> first | rfl | (cases h; done) | (cases h; exact isSt_x (by assumption) (by assumption) (by assumption) (by assumption))
theorem isSt_i {k n : Nat} {r : Nat × Nat} (h : SH k = .inr (0, n, r)) : isSt k = false := by
  unfold SH at h
  split at h <;> first | rfl | (cases h; done)
theorem isSt_r {k t n : Nat} {r : Nat × Nat} (h : SH k = .inr (t + 2, n, r)) (ht : t ≤ 6) : isSt k = false := by
  unfold SH at h
  split at h <;> first | rfl | (cases h; done) | (cases h; omega)
theorem isSt_s {k n : Nat} {r : Nat × Nat} (h : SH k = .inr (9, n, r)) : isSt k = true := by
  unfold SH at h
  split at h <;> first | rfl | (cases h; done)
theorem SH_c {k ci : Nat} {sl : List (Option (Nat × Nat))} (h : SH k = .inl (ci, sl)) : ¬ ci = 1000 := by
  unfold SH at h
  split at h <;> first | (cases h; done) | (cases h; decide)
theorem TY_r (cA : Nat → ClassId) {k t n : Nat} {r : Nat × Nat} (h : SH k = .inr (t + 2, n, r)) (ht : t ≤ 6) : ∃ (t0 : Nat) (C : String), (TY cA)[t0]? = some (cA (t + 2), .object C) := by
  unfold SH at h
  split at h <;> first | (cases h; done) | (cases h; exact ⟨2, _, rfl⟩) | (cases h; exact ⟨3, _, rfl⟩) | (cases h; omega)
end
section

/-! numbers: an int of the machine by an integer modulo 2^32 -/
def iI (z : Int) : Int32 := Int32.ofInt z
def nrm (x : Int) : Int := (x + 2147483648) % 4294967296 - 2147483648
theorem iI_toInt (x : Int) : (iI x).toInt = nrm x := by
  unfold iI nrm
  rw [Int32.toInt_ofInt, Int.bmod_def]
  have h : ((Int32.size : Nat) : Int) = 4294967296 := rfl
  rw [h]
  split <;> omega
theorem iI_of (x : Int32) : iI x.toInt = x := Int32.ofInt_toInt x
theorem iI_add (a b : Int) : iI a + iI b = iI (a + b) := (Int32.ofInt_add a b).symm
theorem iI_sub (a b : Int) : iI a - iI b = iI (a - b) := (Int32.ofInt_sub a b).symm
theorem iI_mul (a b : Int) : iI a * iI b = iI (a * b) := (Int32.ofInt_mul a b).symm
theorem iI_neg (a : Int) : -iI a = iI (-a) := (Int32.ofInt_neg a).symm
theorem iI_lt {a b : Int} : iI a < iI b ↔ nrm a < nrm b := by rw [Int32.lt_iff_toInt_lt, iI_toInt, iI_toInt]
theorem iI_le {a b : Int} : iI a ≤ iI b ↔ nrm a ≤ nrm b := by rw [Int32.le_iff_toInt_le, iI_toInt, iI_toInt]
theorem iI_eq {a b : Int} : iI a = iI b ↔ nrm a = nrm b := by rw [← Int32.toInt_inj, iI_toInt, iI_toInt]
theorem iI_0 : (0 : Int32) = iI 0 := rfl
theorem nrm_0 : nrm 0 = 0 := rfl
theorem nrm_id {x : Int} (h1 : -2147483648 ≤ x) (h2 : x ≤ 2147483647) : nrm x = x := by unfold nrm; omega
theorem nrm_ge (x : Int) : -2147483648 ≤ nrm x := by unfold nrm; omega
theorem nrm_le (x : Int) : nrm x ≤ 2147483647 := by unfold nrm; omega
theorem iI_nrm (x : Int) : iI (nrm x) = iI x := by
  rw [iI_eq, nrm_id (nrm_ge x) (nrm_le x)]
theorem iI_cl (i : Int) : (iI i).toNatClampNeg = (nrm i).toNat := by
  show (iI i).toInt.toNat = _
  rw [iI_toInt]
theorem iI_in {i : Int} {n : Nat} (h0 : 0 ≤ nrm i) (h1 : nrm i < n) : vp_in (iI i) n := by
  rw [vp_in_iff, iI_toInt]
  exact ⟨h0, h1⟩
theorem iI_div {a b : Int} (ha : 0 ≤ nrm a) (hb0 : 0 < b) (hb1 : b ≤ 2147483647) : iI a / iI b = iI (nrm a / b) := by
  have hb : nrm b = b := nrm_id (by omega) hb1
  have h1 : (nrm a).tdiv b = nrm a / b := Int.tdiv_eq_ediv_of_nonneg ha
  have h2 : (iI a / iI b).toInt = nrm a / b := by
    rw [Int32.toInt_div_of_ne_right _ _ (fun h => by
      have h9 := congrArg Int32.toInt h
      rw [iI_toInt, hb] at h9
      have h8 : (-1 : Int32).toInt = -1 := rfl
      omega), iI_toInt, iI_toInt, hb, h1]
  have h3 : 0 ≤ nrm a / b := Int.ediv_nonneg ha (by omega)
  have h4 : nrm a / b ≤ nrm a := Int.ediv_le_self b ha
  have h5 := nrm_le a
  have h6 : nrm (nrm a / b) = nrm a / b := nrm_id (by omega) (by omega)
  rw [← Int32.toInt_inj, h2, iI_toInt, h6]
theorem iI_rem {a b : Int} (ha : 0 ≤ nrm a) (hb0 : 0 < b) (hb1 : b ≤ 2147483647) : iI a - iI a / iI b * iI b = iI (nrm a % b) := by
  rw [iI_div ha hb0 hb1, ← iI_nrm a, iI_mul, iI_sub, Int.emod_def, Int.mul_comm (nrm a / b) b]
theorem iI_ne0 {b : Int} (hb0 : 0 < b) (hb1 : b ≤ 2147483647) : ¬ iI b = 0 := by
  rw [iI_0, iI_eq, nrm_id (by omega) hb1, nrm_0]
  omega
/-! bits: opaque numbers -/
def ian (a b : Int) : Int := (iI a &&& iI b).toInt
def ior (a b : Int) : Int := (iI a ||| iI b).toInt
def ixr (a b : Int) : Int := (iI a ^^^ iI b).toInt
def isl (a b : Int) : Int := (iI a <<< (iI b &&& 31)).toInt
def isr (a b : Int) : Int := (iI a >>> (iI b &&& 31)).toInt
theorem iI_ian (a b : Int) : iI (ian a b) = iI a &&& iI b := iI_of _
theorem iI_ior (a b : Int) : iI (ior a b) = iI a ||| iI b := iI_of _
theorem iI_ixr (a b : Int) : iI (ixr a b) = iI a ^^^ iI b := iI_of _
theorem iI_isl (a b : Int) : iI (isl a b) = iI a <<< (iI b &&& 31) := iI_of _
theorem iI_isr (a b : Int) : iI (isr a b) = iI a >>> (iI b &&& 31) := iI_of _
/-! places: (kind, end, number); values: a number or a place; a state: a number for each slot of each place -/
abbrev Pl : Type := Nat × Nat × Nat
abbrev AV : Type := Int ⊕ Pl
abbrev Sg : Type := Nat → Nat → Nat → Nat → Int
def upd4 (σ : Sg) (k e i j : Nat) (v : Int) : Sg := fun k' e' i' j' => if k' = k ∧ e' = e ∧ i' = i ∧ j' = j then v else σ k' e' i' j'
def cpy4 (σ : Sg) (ks es is sp kd ed id dp n : Nat) : Sg := fun k' e' i' j' => if (k' = kd ∧ e' = ed ∧ i' = id) ∧ dp ≤ j' ∧ j' < dp + n then σ ks es is (sp + (j' - dp)) else σ k' e' i' j'
/-- the place that a reference leads to: by its kind and its way -/
def tgt (t : Nat × Nat) (e i j : Nat) : Pl := match t.2 with
  | 0 => (t.1, e, i)
  | 1 => (t.1, 1 - e, 0)
  | 2 => (t.1, 0, 0)
  | 3 => (t.1, j, 0)
  | _ => (t.1, e, j)
def cv (ad : Pl → Nat) (v : AV) : Value := match v with
  | .inl x => .int (iI x)
  | .inr q => .ref (ad q)
def okv (v : AV) : Prop := match v with
  | .inl _ => True
  | .inr q => q.2.1 < EL q.1 ∧ q.2.2 < IL q.1
def okR (v : Option AV) : Prop := match v with
  | none => True
  | some v => okv v
def okS (st : List AV) : Prop := ∀ v ∈ st, okv v
def okL (L : List (Option AV)) : Prop := ∀ v, some v ∈ L → okv v
theorem cv_cat (ad : Pl → Nat) (v : AV) : (cv ad v).category = 1 := by cases v <;> rfl
theorem cv_sum (ad : Pl → Nat) : ∀ st : List AV, ((st.map (cv ad)).map fun v => v.category).sum = st.length
  | [] => rfl
  | v :: st => by
    simp only [List.map_cons, List.sum_cons, List.length_cons, cv_cat]
    rw [cv_sum ad st, Nat.add_comm]
def slv (ad : Pl → Nat) (f : Nat → Int) (e i : Nat) (sl : List (Option (Nat × Nat))) : List Value := sl.mapIdx (fun j o => match o with | none => .int (iI (f j)) | some t => .ref (ad (tgt t e i j)))
def cel (ad : Pl → Nat) (cA : Nat → ClassId) (q : Pl) (f : Nat → Int) : va_E := match SH q.1 with
  | .inl (ci, sl) => .inr (ci, slv ad f q.2.1 q.2.2 sl)
  | .inr (0, n, _) => .inl (cA 0, n, .inl (fun j => iI (f j)))
  | .inr (1, n, _) => .inl (cA 1, n, .inr (.inl (fun j => Int64.ofInt (f j))))
  | .inr (t + 2, n, r) => .inl (cA (t + 2), n, .inr (.inr (.inr (.inr (fun j => some (ad (tgt r q.2.1 q.2.2 j)))))))
def wl (ad : Pl → Nat) (cA : Nat → ClassId) (σ : Sg) : va_W := PLs.map (fun q => (ad q, cel ad cA q (σ q.1 q.2.1 q.2.2)))
theorem slv_int {ad : Pl → Nat} {f : Nat → Int} {e i : Nat} {sl : List (Option (Nat × Nat))} {j : Nat} (h : sl[j]? = some none) : (slv ad f e i sl)[j]? = some (.int (iI (f j))) := by
  simp [slv, List.getElem?_mapIdx, h]
theorem slv_ref {ad : Pl → Nat} {f : Nat → Int} {e i : Nat} {sl : List (Option (Nat × Nat))} {j : Nat} {t : Nat × Nat} (h : sl[j]? = some (some t)) : (slv ad f e i sl)[j]? = some (.ref (ad (tgt t e i j))) := by
  simp [slv, List.getElem?_mapIdx, h]
theorem slv_len {ad : Pl → Nat} {f : Nat → Int} {e i : Nat} {sl : List (Option (Nat × Nat))} : (slv ad f e i sl).length = sl.length := by simp [slv]
theorem wl_at {ad : Pl → Nat} {cA : Nat → ClassId} {σ : Sg} {n : Nat} {q : Pl} (h : PLs[n]? = some q) : (wl ad cA σ)[n]? = some (ad q, cel ad cA q (σ q.1 q.2.1 q.2.2)) := by
  simp [wl, h]
theorem wl_set {ad : Pl → Nat} {cA : Nat → ClassId} {σ σ' : Sg} {n : Nat} {q : Pl} (h : PLs[n]? = some q) (ho : ∀ k e i, (k, e, i) ≠ q → σ' k e i = σ k e i) {x : va_E} (he : x = cel ad cA q (σ' q.1 q.2.1 q.2.2)) : (wl ad cA σ).set n (ad q, x) = wl ad cA σ' := by
  subst he
  apply List.ext_getElem?
  intro i
  by_cases hi : i = n
  · subst hi
    have hl : i < (wl ad cA σ).length := (List.getElem?_eq_some_iff.mp (wl_at h)).1
    rw [List.getElem?_set_self hl, wl_at h]
  · rw [List.getElem?_set_ne (Ne.symm hi)]
    rcases hq : PLs[i]? with _ | r
    · simp [wl, hq]
    · have hr : r ≠ q := fun e => hi (PL_inj i n r hq (by rw [h, e]))
      rw [wl_at hq, wl_at hq, ho r.1 r.2.1 r.2.2 hr]
theorem slv_set {ad : Pl → Nat} {f g : Nat → Int} {e i j : Nat} {v : Int} {sl : List (Option (Nat × Nat))} (h : sl[j]? = some none) (hv : g j = v) (ho : ∀ y, y ≠ j → g y = f y) : (slv ad f e i sl).set j (.int (iI v)) = slv ad g e i sl := by
  apply List.ext_getElem?
  intro x
  by_cases hi : x = j
  · subst hi
    have hl : x < (slv ad f e i sl).length := by rw [slv_len]; exact (List.getElem?_eq_some_iff.mp h).1
    rw [List.getElem?_set_self hl, slv_int h, hv]
  · rw [List.getElem?_set_ne (Ne.symm hi)]
    simp only [slv, List.getElem?_mapIdx, ho x hi]
theorem upd4_at (σ : Sg) (k e i j : Nat) (v : Int) : upd4 σ k e i j v k e i j = v := by simp [upd4]
theorem upd4_o (σ : Sg) (k e i j : Nat) (v : Int) (k' e' i' : Nat) (h : (k', e', i') ≠ (k, e, i)) : upd4 σ k e i j v k' e' i' = σ k' e' i' := by
  funext y
  have h2 : ¬ (k' = k ∧ e' = e ∧ i' = i ∧ y = j) := fun ⟨a, b, c, _⟩ => h (by rw [a, b, c])
  simp only [upd4, h2, if_false]
theorem upd4_j (σ : Sg) (k e i j : Nat) (v : Int) (y : Nat) (h : y ≠ j) : upd4 σ k e i j v k e i y = σ k e i y := by simp [upd4, h]
theorem cpy4_o (σ : Sg) (ks es is sp kd ed id dp n k' e' i' : Nat) (h : (k', e', i') ≠ (kd, ed, id)) : cpy4 σ ks es is sp kd ed id dp n k' e' i' = σ k' e' i' := by
  funext y
  have h2 : ¬ ((k' = kd ∧ e' = ed ∧ i' = id) ∧ dp ≤ y ∧ y < dp + n) := fun ⟨⟨a, b, c⟩, _⟩ => h (by rw [a, b, c])
  simp only [cpy4, h2, if_false]
/-! locals -/
def prs (ad : Pl → Nat) : Nat → List (Option AV) → List (Nat × Value)
  | _, [] => []
  | n, none :: r => prs ad (n + 1) r
  | n, some v :: r => (n, cv ad v) :: prs ad (n + 1) r
def lgetK (K : AV → Prop) : List (Option AV) → Nat → Prop
  | [], _ => False
  | o :: _, 0 => match o with
    | none => False
    | some v => K v
  | _ :: r, k + 1 => lgetK K r k
def lsetK : List (Option AV) → Nat → AV → (List (Option AV) → Prop) → Prop
  | [], _, _, _ => False
  | _ :: r, 0, v, K => K (some v :: r)
  | o :: r, k + 1, v, K => lsetK r k v (fun r' => K (o :: r'))
theorem prs_ge (ad : Pl → Nat) : ∀ (L : List (Option AV)) (n : Nat) (q : Nat × Value), q ∈ prs ad n L → n ≤ q.1 ∧ q.2.category = 1
  | [], _, _, h => nomatch h
  | none :: r, n, q, h => by
    have := prs_ge ad r (n + 1) q h
    omega
  | some v :: r, n, q, h => by
    rcases List.mem_cons.mp h with h | h
    · subst h
      exact ⟨Nat.le_refl _, cv_cat ad v⟩
    · have := prs_ge ad r (n + 1) q h
      omega
theorem lgetK_sp (ad : Pl → Nat) (K : AV → Prop) : ∀ (L : List (Option AV)) (k n : Nat), lgetK K L k → ∃ v, (n + k, cv ad v) ∈ prs ad n L ∧ some v ∈ L ∧ K v
  | [], _, _, h => nomatch h
  | none :: _, 0, _, h => nomatch h
  | some v :: r, 0, n, h => ⟨v, List.mem_cons_self, List.mem_cons_self, h⟩
  | none :: r, k + 1, n, h => by
    obtain ⟨v, h1, h2, h3⟩ := lgetK_sp ad K r k (n + 1) h
    refine ⟨v, ?_, List.mem_cons_of_mem _ h2, h3⟩
    rw [show n + (k + 1) = n + 1 + k by omega]
    exact h1
  | some w :: r, k + 1, n, h => by
    obtain ⟨v, h1, h2, h3⟩ := lgetK_sp ad K r k (n + 1) h
    refine ⟨v, ?_, List.mem_cons_of_mem _ h2, h3⟩
    rw [show n + (k + 1) = n + 1 + k by omega]
    exact List.mem_cons_of_mem _ h1
theorem lsetK_sp (ad : Pl → Nat) (v : AV) : ∀ (L : List (Option AV)) (k n : Nat) (K : List (Option AV) → Prop), lsetK L k v K → ∃ L', K L' ∧ L'.length = L.length ∧ k < L.length ∧ (∀ q ∈ prs ad n L', q = (n + k, cv ad v) ∨ (q ∈ prs ad n L ∧ q.1 ≠ n + k)) ∧ ∀ w, some w ∈ L' → w = v ∨ some w ∈ L
  | [], _, _, _, h => nomatch h
  | o :: r, 0, n, K, h => by
    refine ⟨some v :: r, h, rfl, Nat.succ_pos _, ?_, ?_⟩
    · intro q hq
      rcases List.mem_cons.mp hq with hq | hq
      · exact Or.inl hq
      · right
        have h9 := prs_ge ad r (n + 1) q hq
        refine ⟨?_, by omega⟩
        cases o with
        | none => exact hq
        | some w => exact List.mem_cons_of_mem _ hq
    · intro w hw
      rcases List.mem_cons.mp hw with hw | hw
      · exact Or.inl (Option.some.inj hw)
      · exact Or.inr (List.mem_cons_of_mem _ hw)
  | o :: r, k + 1, n, K, h => by
    obtain ⟨r', h1, h2, h3, h4, h5⟩ := lsetK_sp ad v r k (n + 1) (fun r' => K (o :: r')) h
    refine ⟨o :: r', h1, by simp [h2], by simp; omega, ?_, ?_⟩
    · intro q hq
      have key : q ∈ prs ad (n + 1) r' → q = (n + (k + 1), cv ad v) ∨ (q ∈ prs ad (n + 1) r ∧ q.1 ≠ n + (k + 1)) := fun hq => by
        rcases h4 q hq with h | h
        · left; rw [h]; congr 1; omega
        · right; exact ⟨h.1, by have := h.2; omega⟩
      cases o with
      | none =>
        exact key hq
      | some w =>
        rcases List.mem_cons.mp hq with hq | hq
        · right
          exact ⟨by rw [hq]; exact List.mem_cons_self, by rw [hq]; show n ≠ n + (k + 1); omega⟩
        · rcases key hq with h | h
          · exact Or.inl h
          · exact Or.inr ⟨List.mem_cons_of_mem _ h.1, h.2⟩
    · intro w hw
      rcases List.mem_cons.mp hw with hw | hw
      · right; rw [hw]; exact List.mem_cons_self
      · rcases h5 w hw with h | h
        · exact Or.inl h
        · exact Or.inr (List.mem_cons_of_mem _ h)
theorem lv_of {ls : Array Slot} {nL : Nat} {l l' : List (Nat × Value)} (h : lv_has ls nL l) (hs : ∀ q ∈ l', q ∈ l) : lv_has ls nL l' := ⟨h.1, h.2.1, fun q hq => h.2.2 q (hs q hq)⟩
/-- the locals behind a store -/
theorem prs_store {ad : Pl → Nat} {L L' : List (Option AV)} {k : Nat} {v : AV} (h : ∀ q ∈ prs ad 0 L', q = (0 + k, cv ad v) ∨ (q ∈ prs ad 0 L ∧ q.1 ≠ 0 + k)) {w : Value} (hw : w = cv ad v) : ∀ q ∈ prs ad 0 L', q ∈ (k, w) :: (prs ad 0 L).filter (fun q => !(q.1 == k) && !(q.1 + 1 == k && q.2.category == 2)) := by
  intro q hq
  rcases h q hq with h | ⟨h1, h2⟩
  · rw [h, hw, Nat.zero_add]; exact List.mem_cons_self
  · refine List.mem_cons_of_mem _ (List.mem_filter.mpr ⟨h1, ?_⟩)
    have h3 := (prs_ge ad L 0 q h1).2
    rw [Nat.zero_add] at h2
    simp [h2, h3]
theorem okL_set {L L' : List (Option AV)} {v : AV} (h : ∀ w, some w ∈ L' → w = v ∨ some w ∈ L) (hL : okL L) (hv : okv v) : okL L' := fun w hw => by
  rcases h w hw with h | h
  · rw [h]; exact hv
  · exact hL w h
/-- the locals at a method's entry -/
def entL (av : List AV) (n : Nat) : List (Option AV) := av.map some ++ List.replicate (n - av.length) none
theorem prs_none (ad : Pl → Nat) : ∀ (k n : Nat), prs ad n (List.replicate k none) = []
  | 0, _ => rfl
  | k + 1, n => by
    show prs ad (n + 1) (List.replicate k none) = []
    exact prs_none ad k (n + 1)
theorem prs_ent (ad : Pl → Nat) (k : Nat) : ∀ (av : List AV) (n : Nat), prs ad n (av.map some ++ List.replicate k none) = lv_args n (av.map (cv ad))
  | [], n => by
    show prs ad n (List.replicate k none) = []
    exact prs_none ad k n
  | v :: av, n => by
    show (n, cv ad v) :: prs ad (n + 1) (av.map some ++ List.replicate k none) = (n, cv ad v) :: lv_args (if (cv ad v).category = 2 then n + 2 else n + 1) (av.map (cv ad))
    rw [prs_ent ad k av (n + 1), cv_cat]
    rfl
end
section
/-! ===== methods that return or throw: own rows over the library ===== -/
/-- the caller's frame g behind a call of three bytes, by the callee's outcome -/
def xt_at (o : Outcome) (g : JFrame) (U : State) : State := match o with
  | .returned v => U.setTop { g with pc := g.pc + 3, stack := v.toList ++ g.stack }
  | .threw q => (U.setTop g).pushFrame (.throwing q)
/-- what a call may have changed -/
def xt_Fr (st t : State) (mc ms : Nat) (free : Addr → Prop) : Prop := st.WarmedH t.vm ∧ ∃ L : List Loc, st.sameButNew ({ t with vm := st.vm } : State) L mc ms ∧ ∀ z ∈ L, free z.base
/-- a contract with both ways out -/
def xt_Met (l : Launch) (y : MethodName) (ws : List Cond) (rm : Room) (Pc : Array Value → State → Prop) (Q : Array Value → State → Outcome → State → Prop) (mc ms : Nat) (free : Addr → Prop) : Prop :=
  MetFree l y (headSpec ws rm) Pc (fun _ _ _ _ _ => True) (fun a st o t => Q a st o t ∧ xt_Fr st t mc ms free)
section XT
variable {p : Program} {l : Launch} {e : Env} {R : Room} {s : State} {m : MethodId} {args : Array Value} {below : List Frame} {meth : Method} {c : Code} {locs : List Loc} {cells slots : Nat}
/-- the callee runs to its end, whichever it is -/
theorem xt_inv {y : MethodName} {ws : List Cond} {rm : Room} {Pc : Array Value → State → Prop} {Q : Array Value → State → Outcome → State → Prop} {mc ms : Nat} {free : Addr → Prop} {bytes : ByteArray} {maxL : Nat} {ret : Option FieldType}
    (hM : xt_Met l y ws rm Pc Q mc ms free) (hbl : FrameBlind Pc) (hfr : rm.frames + 1 ≤ R.frames) (hrc : rm.cells = mc) (hrs : rm.slots = ms)
    (hws : ∀ w ∈ ws, ∀ (a' : Array Value) (U : State), s.WarmedH U.vm → w.before a' U = true) (hcode : Cond.code y bytes maxL ret ∈ ws) (hini : ∀ (a' : Array Value) (U : State), s.WarmedH U.vm → (Cond.initialized y.cls).before a' U = true)
    {U : State} (X : Stand p l e R s m args below meth c U locs cells slots) {g : JFrame} (hg : g.method = m) (hsz : g.locals.size = c.maxLocals) {ig : Instr} (hdg : decode c.code g.pc = .ok (ig, 3))
    (hlo : 2 * g.monitorRoom + (g.stack.map fun v => v.category).sum + (maxL + 11) + rm.locals ≤ R.locals) {mk : MethodId} (hn : U.methodNamed? y = some mk) (hc : cells + mc ≤ R.cells) (hs : slots + ms ≤ R.slots) {a : Array Value} (hP : Pc a U) :
    ∃ (o : Outcome) (t U' : State) (L : List Loc), Stand p l e R s m args below meth c U' (locs ++ L) (cells + mc) (slots + ms) ∧ (∀ z ∈ L, free z.base) ∧ U'.heap = t.heap ∧ U'.vm = t.vm ∧ Q a (U.calling g mk a) o t ∧ Steps p.tables e below (doInvoke e (U.setTop g) [] mk a).1 (xt_at o g U') := by
  obtain ⟨mY, cY, hmY, hcY, -, hlY, -, -, -, -⟩ := Cond.code_spec hn (hws _ hcode a U X.warmed)
  obtain ⟨kY, hkY, -⟩ := className_of_methodNamed hn
  have hiY : kY.init = .initialized := Cond.initialized_spec (findClass_of_methodNamed hn) hkY (hini a U X.warmed)
  have hat : At U g.method c below := by rw [hg]; exact X.here
  have happ : (headSpec ws rm).appliesLoose y e.platform (U.calling g mk a) = true :=
    Spec.appliesLoose_calling (g := g) hat hdg hn hkY hiY (X.room_calling (g := g) (R' := (headSpec ws rm).room) hsz hmY hcY hfr (by rw [hlY]; exact hlo) (by show cells + rm.cells ≤ R.cells; rw [hrc]; exact hc) (by show slots + rm.slots ≤ R.slots; rw [hrs]; exact hs)) (atoms_intro fun w hw => hws w hw a U X.warmed)
  obtain ⟨mid, hmid⟩ := hat.above
  have hfs : (U.setTop g).frames = (.java g :: mid) ++ below := by rw [State.frames_setTop' g hat.top, hmid]; rfl
  obtain ⟨o, t, hst, -, hend, hQ⟩ := Steps.callFree hM p X.admits X.cas X.clock (acts := []) hfs happ (hbl a U g mk hP) trivial
  have hQ : Q a (U.calling g mk a) o t ∧ xt_Fr (U.calling g mk a) t mc ms free := hQ
  obtain ⟨hQ, hW, L, hsame, hL⟩ := hQ
  rw [State.frames_setTop' g hat.top] at hend
  obtain ⟨g₀, hg0⟩ := Option.isSome_iff_exists.mp hat.top
  obtain ⟨r, hr⟩ := State.topJava?_eq_some.mp hg0
  obtain ⟨U', hU'⟩ : ∃ z, z = ({ U with heap := t.heap, slotsUsed := t.slotsUsed } : State).setVm t.vm := ⟨_, rfl⟩
  have hr' : U'.frames = .java g₀ :: r := by rw [hU']; exact hr
  have hWU : U.WarmedH t.vm := hW
  obtain ⟨e2, q2, q3, q4, q5, q6⟩ := hsame
  have e3 : t = ({ (U.calling g mk a).setFrames t.frames with heap := t.heap, slotsUsed := t.slotsUsed } : State).setVm t.vm := by
    have h1 : t = ({ t with vm := (U.calling g mk a).vm } : State).setVm t.vm := rfl
    rw [e2] at h1
    exact h1
  have hsm : U.sameButNew ({ U with heap := t.heap, slotsUsed := t.slotsUsed } : State) L mc ms := by
    refine ⟨?_, q2, q3, q4, q5, q6⟩
    obtain ⟨th, hth, -⟩ := State.frames_cons hr
    show ({ U with heap := t.heap, slotsUsed := t.slotsUsed } : State) = { U.setFrames U.frames with heap := t.heap, slotsUsed := t.slotsUsed }
    rw [State.setFrames_self hth]
  have hX : Stand p l e R s m args below meth c U' (locs ++ L) (cells + mc) (slots + ms) := by
    subst hU'
    exact ⟨X.admits, X.cas, X.clock, X.frames, X.room, X.hears, X.method, X.code, (X.here.setHeapUsed t.heap t.slotsUsed).setVm hWU.alike, X.tail, State.WarmedH.trans X.warmed hWU, X.limits, X.bytes, X.same.trans (hsm.setVm s.vm)⟩
  have hfin : t = xt_at o g U' := by
    cases o with
    | returned v =>
      obtain ⟨c2, i2, n2, hc2, hd2, hf2⟩ := hend
      have h1 : t.code? g.method = U.code? g.method := by rw [State.code?_eq, State.code?_eq, hWU.alike.method?]
      cases Option.some.inj (hc2.symm.trans (h1.trans hat.code))
      rw [hdg] at hd2
      cases hd2
      refine e3.trans ?_
      show _ = U'.setTop { g with pc := g.pc + 3, stack := v.toList ++ g.stack }
      rw [hf2, State.calling_eq hat.top, State.setFrames_setFrames, State.setTop_of_frames _ hr', hU', hr]
      rfl
    | threw q =>
      have hf2 : t.frames = .throwing q :: .java g :: U.frames.tail := hend
      refine e3.trans ?_
      show _ = (U'.setTop g).pushFrame (.throwing q)
      rw [hf2, State.calling_eq hat.top, State.setFrames_setFrames, State.pushFrame, State.frames_setTop _ hr', State.setTop_of_frames _ hr', State.setFrames_setFrames, hU', hr]
      rfl
  refine ⟨o, t, U', L, hX, hL, by rw [hU']; rfl, by rw [hU']; rfl, hQ, ?_⟩
  rw [← hfin]
  exact hst
/-- what a call has left of what was there -/
theorem xt_keep {H0 H : Heap} {st t T' : State} {L : List Loc} {A : Nat → Prop} (h0 : st.heap = H) (e1 : T'.heap = t.heap) (hS : va_S A H0 H locs) (hL : ∀ q ∈ L, A q.base) (hF : va_F A st t) : va_S A H0 T'.heap (locs ++ L) := by
  obtain ⟨hz, hk⟩ := hF
  rw [h0] at hz hk
  rw [e1]
  refine ⟨Nat.le_trans hS.1 hz, fun q h1 h2 => ?_, fun q hq => ?_⟩
  · rw [hk q (Nat.lt_of_lt_of_le h1 hS.1) h2]
    exact hS.2.1 q h1 h2
  · rcases List.mem_append.mp hq with h | h
    · exact hS.2.2 q h
    · exact hL q h
end XT
/-! a static of Throwable that nobody writes, and that holds a reference or null -/
def Sx (n d : String) (A : Nat → Prop) (U : State) (H : Heap) : Prop := ∃ (c : ClassId) (k : Class) (i : Nat) (f : Field) (a : Nat) (cell : Cell) (v : Value), U.vm.findClass Bundle.tN = some c ∧ U.fieldFound? Bundle.tN n d = some (c, k, i, f) ∧ f.isStatic = true ∧ k.statics = some a ∧ H[a]? = some cell ∧ cell.vm.isStatics = true ∧ cell.cls = c ∧ f.slot < cell.slots.size ∧ k.staticTypes[f.slot]? = some f.type ∧ cell.slots[f.slot]? = some v ∧ v.isRef = true ∧ ¬ A a
theorem Sx.moved {n d : String} {A : Nat → Prop} {u U : State} {H : Heap} (hvm : u.vm.Alike U.vm) (h : Sx n d A u H) : Sx n d A U H := by
  obtain ⟨c, k, i, f, a, cell, v, h1, h2, h3, h4, h5, h6, h7, h8, h9, h10⟩ := h
  obtain ⟨k', hi', he⟩ := State.fieldFound?_setVm hvm h2
  exact ⟨c, k', i, f, a, cell, v, by rw [hvm.findClass]; exact h1, hi', h3, by rw [he]; exact h4, h5, h6, h7, h8, by rw [he]; exact h9, h10⟩
theorem Sx.kept {n d : String} {A : Nat → Prop} {U : State} {H H1 : Heap} (h : Sx n d A U H) (hq : ∀ a : Nat, a < H.size → ¬ A a → H1[a]? = H[a]?) : Sx n d A U H1 := by
  obtain ⟨c, k, i, f, a, cell, v, h1, h2, h3, h4, h5, h6, h7, h8, h9, h10, h11, h12⟩ := h
  exact ⟨c, k, i, f, a, cell, v, h1, h2, h3, h4, by rw [hq a (Array.getElem?_eq_some_iff.mp h5).1 h12]; exact h5, h6, h7, h8, h9, h10, h11, h12⟩
theorem Sx.lays {n d : String} {A : Nat → Prop} {s : State} {args : Array Value} (h : Sx n d A s s.heap) : (Cond.laysStatic Bundle.tN n d).before args s = true := by
  obtain ⟨c, k, i, f, a, cell, v, h1, h2, h3, h4, h5, h6, h7, h8, h9, -⟩ := h
  show (Cond.laysStatic Bundle.tN n d).holds args s none s [] = true
  exact Cond.laysStatic_of h1 h2 h3 h4 h5 h6 h7 h8 h9
theorem Sx.ref {n d : String} {A : Nat → Prop} {s : State} {args : Array Value} (h : Sx n d A s s.heap) : (Cond.isRef (.static Bundle.tN n d)).before args s = true := by
  obtain ⟨c, k, i, f, a, cell, v, h1, h2, h3, h4, h5, h6, h7, h8, h9, h10, h11, -⟩ := h
  have he : (Term.static Bundle.tN n d).eval args s none [] s = some v := by
    simp [Term.eval, State.fieldNamed?, h2, h3, h4, h5, h6, h10]
  simp only [Cond.before, Cond.holds, Cond.value, he]
  cases v <;> simp_all [Value.isRef]
/-! references lead to places of the world -/
def okT (k n : Nat) (t : Nat × Nat) : Bool := match t.2 with
  | 0 => Nat.ble (EL k) (EL t.1) && Nat.ble (IL k) (IL t.1)
  | 1 => Nat.ble 2 (EL t.1) && Nat.ble 1 (IL t.1)
  | 2 => Nat.ble 1 (EL t.1) && Nat.ble 1 (IL t.1)
  | 3 => Nat.ble n (EL t.1) && Nat.ble 1 (IL t.1)
  | _ => Nat.ble (EL k) (EL t.1) && Nat.ble n (IL t.1)
def okK (k : Nat) : Bool := match SH k with
  | .inl (_, sl) => sl.all (fun o => match o with
    | none => true
    | some t => Nat.ble t.2 2 && okT k 0 t)
  | .inr (t, n, r) => Nat.ble t 1 || Nat.beq t 9 || okT k n r
theorem okK_all : ∀ k, k < 300 → okK k = true := by decide +kernel
theorem okT_sp {k n e i j : Nat} {t : Nat × Nat} (h : okT k n t = true) (he : e < EL k) (hi : i < IL k) (hj : t.2 ≤ 2 ∨ j < n) : okv (.inr (tgt t e i j)) := by
  obtain ⟨kd, wy⟩ := t
  have hk : ∀ a b c d : Nat, (Nat.ble a b && Nat.ble c d) = true → a ≤ b ∧ c ≤ d := fun a b c d h => by
    rw [Bool.and_eq_true] at h
    exact ⟨Nat.le_of_ble_eq_true h.1, Nat.le_of_ble_eq_true h.2⟩
  rcases wy with _ | _ | _ | _ | wy
  · obtain ⟨h1, h2⟩ := hk _ _ _ _ h
    exact ⟨Nat.lt_of_lt_of_le he h1, Nat.lt_of_lt_of_le hi h2⟩
  · obtain ⟨h1, h2⟩ := hk _ _ _ _ h
    refine ⟨?_, h2⟩
    show 1 - e < EL kd
    have h1 : 2 ≤ EL kd := h1
    omega
  · obtain ⟨h1, h2⟩ := hk _ _ _ _ h
    exact ⟨h1, h2⟩
  · obtain ⟨h1, h2⟩ := hk _ _ _ _ h
    rcases hj with hj | hj
    · exact absurd hj (by show ¬ (3 ≤ 2); decide)
    · exact ⟨Nat.lt_of_lt_of_le hj h1, h2⟩
  · obtain ⟨h1, h2⟩ := hk _ _ _ _ h
    rcases hj with hj | hj
    · exact absurd hj (by show ¬ (wy + 4 ≤ 2); omega)
    · exact ⟨Nat.lt_of_lt_of_le he h1, Nat.lt_of_lt_of_le hj h2⟩
theorem okv_k {k e i : Nat} (h : okv (.inr (k, e, i))) : k < 300 := by
  rcases (EL_b k e h.1).2 with h2 | h2
  · omega
  · unfold isSt at h2
    rw [Bool.and_eq_true] at h2
    have := Nat.le_of_ble_eq_true h2.2
    omega
theorem SH_o {k ci j e i : Nat} {sl : List (Option (Nat × Nat))} {t : Nat × Nat} (h : SH k = .inl (ci, sl)) (h2 : sl[j]? = some (some t)) (hok : okv (.inr (k, e, i))) : okv (.inr (tgt t e i j)) := by
  have h3 := okK_all k (okv_k hok)
  simp only [okK, h] at h3
  have h4 := List.all_eq_true.mp h3 _ (List.mem_of_getElem? h2)
  simp only [Bool.and_eq_true] at h4
  exact okT_sp h4.2 hok.1 hok.2 (Or.inl (Nat.le_of_ble_eq_true h4.1))
theorem SH_r {k t n e i j : Nat} {r : Nat × Nat} (h : SH k = .inr (t + 2, n, r)) (ht : t ≤ 6) (hok : okv (.inr (k, e, i))) (hj : j < n) : okv (.inr (tgt r e i j)) := by
  have h3 := okK_all k (okv_k hok)
  simp only [okK, h, Bool.or_eq_true] at h3
  rcases h3 with (h3 | h3) | h3
  · have := Nat.le_of_ble_eq_true h3; omega
  · have := Nat.eq_of_beq_eq_true h3; omega
  · exact okT_sp h3 hok.1 hok.2 (Or.inr hj)
theorem cel_a (ad : Pl → Nat) (cA : Nat → ClassId) {k t n e i : Nat} {r : Nat × Nat} (h : SH k = .inr (t, n, r)) (hq : isSt k = false) (f : Nat → Int) : ∃ (t0 : Nat) (c9 : ClassId) (ty9 : FieldType) (x9 : vp_A), cel ad cA (k, e, i) f = .inl (c9, x9) ∧ (TY cA)[t0]? = some (c9, ty9) ∧ x9.1 = n := by
  unfold SH at h
  split at h <;> first | (cases h; done) | (exact absurd hq (by decide)) | (cases h; exact ⟨0, _, _, _, rfl, rfl, rfl⟩) | (cases h; exact ⟨1, _, _, _, rfl, rfl, rfl⟩) | (cases h; exact ⟨2, _, _, _, rfl, rfl, rfl⟩) | (cases h; exact ⟨3, _, _, _, rfl, rfl, rfl⟩)
/-! statics: tables that nobody writes; the nest's words; what a throw asks -/
def sN (k : Nat) : Nat := match SH k with
  | .inl _ => 0
  | .inr (_, n, _) => n
def STt (ad : Pl → Nat) (A : Nat → Prop) (U : State) : Prop :=
  (∀ q ∈ STL, va_Z q.2.1 q.2.2 "[I" (.ref (ad (q.1, 0, 0))) A U U.heap ∧ va_T .int (ad (q.1, 0, 0)) (sN q.1) (fun j => .int (iI (sv q.1 j))) A U U.heap) ∧ (∀ w ∈ NWS, va_Nw w U) ∧ Sx "UNASSIGNED_STACK" Bundle.steD A U U.heap ∧ Sx "SUPPRESSED_SENTINEL" Bundle.listD A U U.heap
theorem STL_ok (q : Nat × String × String) (h : q ∈ STL) : okv (.inr (q.1, 0, 0)) := by
  have h2 : ∀ q ∈ STL, 0 < EL q.1 ∧ 0 < IL q.1 := by decide +kernel
  exact h2 q h
theorem STt_t {ad : Pl → Nat} {A : Nat → Prop} {s : State} (hS : STt ad A s) {k t n e i : Nat} {r : Nat × Nat} (h : SH k = .inr (t, n, r)) (hq : isSt k = true) (hok : okv (.inr (k, e, i))) : e = 0 ∧ i = 0 ∧ va_T .int (ad (k, 0, 0)) n (fun j => .int (iI (sv k j))) A s s.heap := by
  have hk : k = 200 ∨ k = 201 ∨ k = 202 ∨ k = 203 := by
    unfold isSt at hq
    rw [Bool.and_eq_true] at hq
    have := Nat.le_of_ble_eq_true hq.1
    have := Nat.le_of_ble_eq_true hq.2
    omega
  have hn : sN k = n := by simp only [sN, h]
  have key : ∀ (C n' : String), (k, C, n') ∈ STL → va_T .int (ad (k, 0, 0)) n (fun j => .int (iI (sv k j))) A s s.heap := fun C n' h => by
    have := (hS.1 _ h).2
    rw [hn] at this
    exact this
  obtain ⟨h1, h2⟩ := hok
  have h1 : e < EL k := h1
  have h2 : i < IL k := h2
  have he : EL k = 1 ∧ IL k = 1 := by rcases hk with rfl | rfl | rfl | rfl <;> exact ⟨rfl, rfl⟩
  have hm : ∃ C n', (k, C, n') ∈ STL := by
    rcases hk with rfl | rfl | rfl | rfl
    · exact ⟨_, _, List.mem_of_getElem? (i := 0) rfl⟩
    · exact ⟨_, _, List.mem_of_getElem? (i := 1) rfl⟩
    · exact ⟨_, _, List.mem_of_getElem? (i := 2) rfl⟩
    · exact ⟨_, _, List.mem_of_getElem? (i := 3) rfl⟩
  obtain ⟨C, n', hm⟩ := hm
  exact ⟨by omega, by omega, key C n' hm⟩
theorem STt_same {ad : Pl → Nat} {A : Nat → Prop} {U V : State} (hv : U.vm = V.vm) (hh : U.heap = V.heap) (h : STt ad A U) : STt ad A V := by
  have ha : U.vm.Alike V.vm := by rw [hv]; exact Vm.Alike.refl _
  obtain ⟨h1, h2, h3, h4⟩ := h
  rw [hh] at h1 h3 h4
  exact ⟨fun q hq => ⟨(h1 q hq).1.moved ha, (h1 q hq).2.moved ha⟩, fun w hw => (h2 w hw).same (NWS_on w hw) hv, h3.moved ha, h4.moved ha⟩
theorem STt_next {ad : Pl → Nat} {A : Nat → Prop} {s U : State} {H : Heap} {locs : List Loc} (h : STt ad A s) (hS : va_S A s.heap H locs) (hW : s.WarmedH U.vm) (hU : U.heap = H) : STt ad A U := by
  have ha : s.vm.Alike U.vm := hW.alike
  obtain ⟨h1, h2, h3, h4⟩ := h
  subst hU
  refine ⟨fun q hq => ⟨((h1 q hq).1.kept hS.2.1).moved ha, ((h1 q hq).2.kept hS.2.1).moved ha⟩, fun w hw => ?_, (h3.kept hS.2.1).moved ha, (h4.kept hS.2.1).moved ha⟩
  have h5 := h2 w hw
  have h6 := (List.mem_filter.mp hw).2
  cases w <;> first | (exact va_Nw.warmF hW h5) | (exact va_Nw.warmM hW h5) | (exact va_tabs rfl (rfl : (s.setVm U.vm).vm = U.vm) (by rw [Cond.declares_setVm ha]; exact h5)) | (exact va_tabs rfl (rfl : (s.setVm U.vm).vm = U.vm) (by rw [Cond.castable_setVm ha]; exact h5)) | (simp [isNw] at h6; done)
theorem wMath : Cond.initialized "java/lang/Math" ∈ GWS ∧ (Cond.static Lib.Math.min.name ∈ GWS ∧ Cond.static Lib.Math.max.name ∈ GWS) ∧ (Cond.code Lib.Math.min.name Lib.Math.min.code 2 (some .int) ∈ GWS ∧ Cond.code Lib.Math.max.name Lib.Math.max.code 2 (some .int) ∈ GWS) := by decide +kernel
theorem wCopy : Cond.native arraycopyName ∈ GWS ∧ Cond.static arraycopyName ∈ GWS ∧ Cond.initialized "java/lang/System" ∈ GWS := by decide +kernel
end
section

/-! a method's text: (pc, operation, number, integer, target) -/
abbrev Ent : Type := Nat × Nat × Nat × Int × Nat
/-- a switch: least, targets, default's target, length -/
abbrev Swt : Type := Int × List Nat × Nat × Nat
def dec (sw : List Swt) (q : Ent) : Instr × Nat := match q with
  | (pc, op, a, b, tg) => match op with
    | 0 => (.iconst b, 1)
    | 1 => (.bipush b, 2)
    | 2 => (.sipush b, 3)
    | 3 => (.iload_n (Fin.ofNat 4 a), 1)
    | 4 => (.iload a, 2)
    | 5 => (.aload_n (Fin.ofNat 4 a), 1)
    | 6 => (.aload a, 2)
    | 7 => (.istore_n (Fin.ofNat 4 a), 1)
    | 8 => (.istore a, 2)
    | 9 => (.astore_n (Fin.ofNat 4 a), 1)
    | 10 => (.astore a, 2)
    | 11 => (.iinc a b, 3)
    | 12 => (.iadd, 1)
    | 13 => (.isub, 1)
    | 14 => (.imul, 1)
    | 15 => (.ineg, 1)
    | 16 => (.idiv, 1)
    | 17 => (.irem, 1)
    | 18 => (.iand, 1)
    | 19 => (.ior, 1)
    | 20 => (.ixor, 1)
    | 21 => (.ishl, 1)
    | 22 => (.ishr, 1)
    | 23 => (.dup, 1)
    | 24 => (.pop, 1)
    | 25 => (.dup2, 1)
    | 26 => (.ifCond .eq ((tg : Int) - pc), 3)
    | 27 => (.ifCond .ne ((tg : Int) - pc), 3)
    | 28 => (.ifCond .lt ((tg : Int) - pc), 3)
    | 29 => (.ifCond .ge ((tg : Int) - pc), 3)
    | 30 => (.ifCond .gt ((tg : Int) - pc), 3)
    | 31 => (.ifCond .le ((tg : Int) - pc), 3)
    | 32 => (.if_icmp .eq ((tg : Int) - pc), 3)
    | 33 => (.if_icmp .ne ((tg : Int) - pc), 3)
    | 34 => (.if_icmp .lt ((tg : Int) - pc), 3)
    | 35 => (.if_icmp .ge ((tg : Int) - pc), 3)
    | 36 => (.if_icmp .gt ((tg : Int) - pc), 3)
    | 37 => (.if_icmp .le ((tg : Int) - pc), 3)
    | 38 => (.goto ((tg : Int) - pc), 3)
    | 39 => (.getfield a, 3)
    | 40 => (.putfield a, 3)
    | 41 => (.iaload, 1)
    | 42 => (.iastore, 1)
    | 43 => (.aaload, 1)
    | 44 => (.arraylength, 1)
    | 45 => (.getstatic a, 3)
    | 46 => (.invokevirtual a, 3)
    | 47 => (.invokestatic a, 3)
    | 48 => (.ireturn, 1)
    | 49 => (.return_, 1)
    | 50 => (.areturn, 1)
    | 51 => match sw[a]? with
      | some (lo, ts, df, len) => (.tableswitch ((df : Int) - pc) lo (lo + ts.length - 1) (ts.map (fun (t : Nat) => (t : Int) - pc)).toArray, len)
      | none => (.nop, 1)
    | 52 => (.invokestatic a, 3)
    | 53 => (.invokestatic a, 3)
    | 54 => (.invokestatic a, 3)
    | 55 => (.new a, 3)
    | _ => (.nop, 1)
/-- what a call does: from its arguments and the state, what must hold for an answer with a state, or a throw with a state -/
abbrev CSp : Type := List AV → Sg → (Option AV → Sg → Prop) → (String → Sg → Prop) → Prop
/-- a method's tables: fields (place of the class, slot, 0 int 1 boolean 2 a reference), statics (kind), calls (number of arguments, class of the receiver, what it does, cells, slots), switches, the kind of its answer (0 int 1 boolean 2 none 3 a reference), its room of cells and slots -/
abbrev Tb : Type := (Nat → Option (Nat × Nat × Nat)) × (Nat → Option Nat) × (Nat → Option (Nat × Nat × CSp × Nat × Nat)) × List Swt × Nat × Nat × Nat
abbrev KK : Type := Nat → List (Option AV) → List AV → Sg → Nat → Nat → Prop
def takeK (K : List AV → List AV → Prop) : Nat → List AV → List AV → Prop
  | 0, st, acc => K acc st
  | _ + 1, [], _ => False
  | n + 1, v :: st, acc => takeK K n st (v :: acc)
def pso (r : Option AV) (st : List AV) : List AV := match r with
  | none => st
  | some v => v :: st
def lnthK {α : Type} (K : α → Prop) : List α → Nat → Prop
  | [], _ => False
  | x :: _, 0 => K x
  | _ :: r, n + 1 => lnthK K r n
def swc (x : Int) (K : Nat → Prop) : List Nat → Int → Prop
  | [], _ => True
  | t :: r, z => (x = z → K t) ∧ swc x K r (z + 1)
def b2p (b : Bool) (P : Prop) : Prop := match b with
  | true => P
  | false => False
def exn (k : Nat) : String := match k with
  | 1 => "java/lang/IllegalArgumentException"
  | 2 => "java/util/NoSuchElementException"
  | 3 => "java/lang/UnsupportedOperationException"
  | _ => "java/lang/IllegalStateException"
def stp (tb : Tb) (Φ : Option AV → Sg → Prop) (Ψ : String → Sg → Prop) (K : KK) (q : Ent) (L : List (Option AV)) (st : List AV) (σ : Sg) (nc ns : Nat) : Prop := match q with
  | (pc, op, a, b, tg) => match op with
    | 0 => K (pc + 1) L (.inl b :: st) σ nc ns
    | 1 => K (pc + 2) L (.inl b :: st) σ nc ns
    | 2 => K (pc + 3) L (.inl b :: st) σ nc ns
    | 3 => lgetK (fun v => match v with
      | .inl x => K (pc + 1) L (.inl x :: st) σ nc ns
      | .inr _ => False) L a
    | 4 => lgetK (fun v => match v with
      | .inl x => K (pc + 2) L (.inl x :: st) σ nc ns
      | .inr _ => False) L a
    | 5 => lgetK (fun v => match v with
      | .inl _ => False
      | .inr x => K (pc + 1) L (.inr x :: st) σ nc ns) L a
    | 6 => lgetK (fun v => match v with
      | .inl _ => False
      | .inr x => K (pc + 2) L (.inr x :: st) σ nc ns) L a
    | 7 => match st with
      | .inl x :: st => lsetK L a (.inl x) (fun L => K (pc + 1) L st σ nc ns)
      | _ => False
    | 8 => match st with
      | .inl x :: st => lsetK L a (.inl x) (fun L => K (pc + 2) L st σ nc ns)
      | _ => False
    | 9 => match st with
      | .inr x :: st => lsetK L a (.inr x) (fun L => K (pc + 1) L st σ nc ns)
      | _ => False
    | 10 => match st with
      | .inr x :: st => lsetK L a (.inr x) (fun L => K (pc + 2) L st σ nc ns)
      | _ => False
    | 11 => lgetK (fun v => match v with
      | .inl x => lsetK L a (.inl (x + b)) (fun L => K (pc + 3) L st σ nc ns)
      | .inr _ => False) L a
    | 12 => match st with
      | .inl y :: .inl x :: st => K (pc + 1) L (.inl (x + y) :: st) σ nc ns
      | _ => False
    | 13 => match st with
      | .inl y :: .inl x :: st => K (pc + 1) L (.inl (x - y) :: st) σ nc ns
      | _ => False
    | 14 => match st with
      | .inl y :: .inl x :: st => K (pc + 1) L (.inl (x * y) :: st) σ nc ns
      | _ => False
    | 15 => match st with
      | .inl x :: st => K (pc + 1) L (.inl (-x) :: st) σ nc ns
      | _ => False
    | 16 => match st with
      | .inl y :: .inl x :: st => (0 ≤ nrm x ∧ 0 < y ∧ y ≤ 2147483647) ∧ K (pc + 1) L (.inl (nrm x / y) :: st) σ nc ns
      | _ => False
    | 17 => match st with
      | .inl y :: .inl x :: st => (0 ≤ nrm x ∧ 0 < y ∧ y ≤ 2147483647) ∧ K (pc + 1) L (.inl (nrm x % y) :: st) σ nc ns
      | _ => False
    | 18 => match st with
      | .inl y :: .inl x :: st => K (pc + 1) L (.inl (ian x y) :: st) σ nc ns
      | _ => False
    | 19 => match st with
      | .inl y :: .inl x :: st => K (pc + 1) L (.inl (ior x y) :: st) σ nc ns
      | _ => False
    | 20 => match st with
      | .inl y :: .inl x :: st => K (pc + 1) L (.inl (ixr x y) :: st) σ nc ns
      | _ => False
    | 21 => match st with
      | .inl y :: .inl x :: st => K (pc + 1) L (.inl (isl x y) :: st) σ nc ns
      | _ => False
    | 22 => match st with
      | .inl y :: .inl x :: st => K (pc + 1) L (.inl (isr x y) :: st) σ nc ns
      | _ => False
    | 23 => match st with
      | v :: st => K (pc + 1) L (v :: v :: st) σ nc ns
      | _ => False
    | 24 => match st with
      | _ :: st => K (pc + 1) L st σ nc ns
      | _ => False
    | 25 => match st with
      | v :: w :: st => K (pc + 1) L (v :: w :: v :: w :: st) σ nc ns
      | _ => False
    | 26 => match st with
      | .inl x :: st => (nrm x = 0 → K tg L st σ nc ns) ∧ (¬ nrm x = 0 → K (pc + 3) L st σ nc ns)
      | _ => False
    | 27 => match st with
      | .inl x :: st => (¬ nrm x = 0 → K tg L st σ nc ns) ∧ (nrm x = 0 → K (pc + 3) L st σ nc ns)
      | _ => False
    | 28 => match st with
      | .inl x :: st => (nrm x < 0 → K tg L st σ nc ns) ∧ (0 ≤ nrm x → K (pc + 3) L st σ nc ns)
      | _ => False
    | 29 => match st with
      | .inl x :: st => (0 ≤ nrm x → K tg L st σ nc ns) ∧ (nrm x < 0 → K (pc + 3) L st σ nc ns)
      | _ => False
    | 30 => match st with
      | .inl x :: st => (0 < nrm x → K tg L st σ nc ns) ∧ (nrm x ≤ 0 → K (pc + 3) L st σ nc ns)
      | _ => False
    | 31 => match st with
      | .inl x :: st => (nrm x ≤ 0 → K tg L st σ nc ns) ∧ (0 < nrm x → K (pc + 3) L st σ nc ns)
      | _ => False
    | 32 => match st with
      | .inl y :: .inl x :: st => (nrm x = nrm y → K tg L st σ nc ns) ∧ (¬ nrm x = nrm y → K (pc + 3) L st σ nc ns)
      | _ => False
    | 33 => match st with
      | .inl y :: .inl x :: st => (¬ nrm x = nrm y → K tg L st σ nc ns) ∧ (nrm x = nrm y → K (pc + 3) L st σ nc ns)
      | _ => False
    | 34 => match st with
      | .inl y :: .inl x :: st => (nrm x < nrm y → K tg L st σ nc ns) ∧ (nrm y ≤ nrm x → K (pc + 3) L st σ nc ns)
      | _ => False
    | 35 => match st with
      | .inl y :: .inl x :: st => (nrm y ≤ nrm x → K tg L st σ nc ns) ∧ (nrm x < nrm y → K (pc + 3) L st σ nc ns)
      | _ => False
    | 36 => match st with
      | .inl y :: .inl x :: st => (nrm y < nrm x → K tg L st σ nc ns) ∧ (nrm x ≤ nrm y → K (pc + 3) L st σ nc ns)
      | _ => False
    | 37 => match st with
      | .inl y :: .inl x :: st => (nrm x ≤ nrm y → K tg L st σ nc ns) ∧ (nrm y < nrm x → K (pc + 3) L st σ nc ns)
      | _ => False
    | 38 => K tg L st σ nc ns
    | 39 => match tb.1 a with
      | some (ci, j, ty) => match st with
        | .inr (k, e, i) :: st => match SH k with
          | .inl (ci', sl) => b2p (Nat.beq ci ci') (lnthK (fun o => match o with
            | none => b2p (!Nat.beq ty 2) (K (pc + 3) L (.inl (σ k e i j) :: st) σ nc ns)
            | some t => b2p (Nat.beq ty 2) (K (pc + 3) L (.inr (tgt t e i j) :: st) σ nc ns)) sl j)
          | .inr _ => False
        | _ => False
      | none => False
    | 40 => match tb.1 a with
      | some (ci, j, ty) => match st with
        | .inl x :: .inr (k, e, i) :: st => match SH k with
          | .inl (ci', sl) => b2p (Nat.beq ci ci') (lnthK (fun o => match o with
            | none => match ty with
              | 0 => K (pc + 3) L st (upd4 σ k e i j x) nc ns
              | 1 => (x = 0 ∨ x = 1) ∧ K (pc + 3) L st (upd4 σ k e i j x) nc ns
              | _ => False
            | some _ => False) sl j)
          | .inr _ => False
        | _ => False
      | none => False
    | 41 => match st with
      | .inl x :: .inr (k, e, i) :: st => match SH k with
        | .inl _ => False
        | .inr (0, n, _) => (0 ≤ nrm x ∧ nrm x < n) ∧ K (pc + 1) L (.inl (σ k e i (nrm x).toNat) :: st) σ nc ns
        | .inr (9, n, _) => (0 ≤ nrm x ∧ nrm x < n) ∧ K (pc + 1) L (.inl (sv k (nrm x).toNat) :: st) σ nc ns
        | _ => False
      | _ => False
    | 42 => match st with
      | .inl v :: .inl x :: .inr (k, e, i) :: st => match SH k with
        | .inl _ => False
        | .inr (0, n, _) => (0 ≤ nrm x ∧ nrm x < n) ∧ K (pc + 1) L st (upd4 σ k e i (nrm x).toNat v) nc ns
        | _ => False
      | _ => False
    | 43 => match st with
      | .inl x :: .inr (k, e, i) :: st => match SH k with
        | .inl _ => False
        | .inr (t + 2, n, r) => b2p (Nat.ble t 6) ((0 ≤ nrm x ∧ nrm x < n) ∧ K (pc + 1) L (.inr (tgt r e i (nrm x).toNat) :: st) σ nc ns)
        | _ => False
      | _ => False
    | 44 => match st with
      | .inr (k, _, _) :: st => match SH k with
        | .inl _ => False
        | .inr (_, n, _) => K (pc + 1) L (.inl n :: st) σ nc ns
      | _ => False
    | 45 => match tb.2.1 a with
      | some k => b2p (Nat.ble k 299) (K (pc + 3) L (.inr (k, 0, 0) :: st) σ nc ns)
      | none => False
    | 46 => match tb.2.2.1 a with
      | some (n, ci, Sp, mc, ms) => takeK (fun av st => b2p (Nat.ble st.length 8 && (Nat.ble (nc + mc) tb.2.2.2.2.2.1 && Nat.ble (ns + ms) tb.2.2.2.2.2.2)) (match av with
        | .inr (k, _, _) :: _ => match SH k with
          | .inl (ci', _) => b2p (Nat.beq ci ci') (Sp av σ (fun r σ => K (pc + 3) L (pso r st) σ (nc + mc) (ns + ms)) Ψ)
          | .inr _ => False
        | _ => False)) n st []
      | none => False
    | 47 => match tb.2.2.1 a with
      | some (n, ci, Sp, mc, ms) => takeK (fun av st => b2p (Nat.beq ci 1000 && (Nat.ble st.length 8 && (Nat.ble (nc + mc) tb.2.2.2.2.2.1 && Nat.ble (ns + ms) tb.2.2.2.2.2.2))) (Sp av σ (fun r σ => K (pc + 3) L (pso r st) σ (nc + mc) (ns + ms)) Ψ)) n st []
      | none => False
    | 48 => match st with
      | [.inl x] => b2p (Nat.ble nc tb.2.2.2.2.2.1 && Nat.ble ns tb.2.2.2.2.2.2) (match tb.2.2.2.2.1 with
        | 0 => Φ (some (.inl x)) σ
        | 1 => (x = 0 ∨ x = 1) ∧ Φ (some (.inl x)) σ
        | _ => False)
      | _ => False
    | 49 => match st with
      | [] => b2p (Nat.beq tb.2.2.2.2.1 2 && (Nat.ble nc tb.2.2.2.2.2.1 && Nat.ble ns tb.2.2.2.2.2.2)) (Φ none σ)
      | _ => False
    | 50 => match st with
      | [.inr x] => b2p (Nat.beq tb.2.2.2.2.1 3 && (Nat.ble nc tb.2.2.2.2.2.1 && Nat.ble ns tb.2.2.2.2.2.2)) (Φ (some (.inr x)) σ)
      | _ => False
    | 51 => match tb.2.2.2.1[a]? with
      | some (lo, ts, df, _) => match st with
        | .inl x :: st => swc (nrm x) (fun t => K t L st σ nc ns) ts lo ∧ (nrm x < lo ∨ lo + ts.length - 1 < nrm x → K df L st σ nc ns)
        | _ => False
      | none => False
    | 52 => match tb.2.1 a with
      | some 301 => match st with
        | .inl y :: .inl x :: st => b2p (Nat.ble st.length 8 && (Nat.ble nc tb.2.2.2.2.2.1 && Nat.ble ns tb.2.2.2.2.2.2)) (K (pc + 3) L (.inl (if nrm y < nrm x then y else x) :: st) σ nc ns)
        | _ => False
      | _ => False
    | 53 => match tb.2.1 a with
      | some 302 => match st with
        | .inl y :: .inl x :: st => b2p (Nat.ble st.length 8 && (Nat.ble nc tb.2.2.2.2.2.1 && Nat.ble ns tb.2.2.2.2.2.2)) (K (pc + 3) L (.inl (if nrm x < nrm y then y else x) :: st) σ nc ns)
        | _ => False
      | _ => False
    | 54 => match tb.2.1 a with
      | some 303 => match st with
        | .inl n :: .inl dp :: .inr (kd, ed, id) :: .inl sp :: .inr (ks, es, is) :: st => match SH ks, SH kd with
          | .inr (0, n0, _), .inr (0, n1, _) => b2p (Nat.ble st.length 8) ((0 ≤ nrm sp ∧ 0 ≤ nrm dp ∧ 0 ≤ nrm n ∧ nrm sp + nrm n ≤ n0 ∧ nrm dp + nrm n ≤ n1) ∧ K (pc + 3) L st (cpy4 σ ks es is (nrm sp).toNat kd ed id (nrm dp).toNat (nrm n).toNat) nc ns)
          | _, _ => False
        | _ => False
      | _ => False
    | 55 => b2p (Nat.ble st.length 8 && (Nat.ble (nc + 1) tb.2.2.2.2.2.1 && Nat.ble (ns + 6) tb.2.2.2.2.2.2)) (Ψ (exn tg) σ)
    | _ => False
def lkK (K : Ent → Prop) : List Ent → Nat → Prop
  | [], _ => False
  | q :: r, pc => match Nat.beq q.1 pc with
    | true => K q
    | false => lkK K r pc
def elemN : List Nat → Nat → Bool
  | [], _ => false
  | x :: r, n => match Nat.beq x n with
    | true => true
    | false => elemN r n
/-- the run from pc on, to the ends or to the stops -/
def wp (tb : Tb) (Φ : Option AV → Sg → Prop) (Ψ : String → Sg → Prop) (pr : List Ent) (stops : List Nat) (Z : KK) : Nat → KK
  | 0, _, _, _, _, _, _ => False
  | f + 1, pc, L, st, σ, nc, ns => lkK (fun q => stp tb Φ Ψ (fun pc L st σ nc ns => match elemN stops pc with
    | true => Z pc L st σ nc ns
    | false => wp tb Φ Ψ pr stops Z f pc L st σ nc ns) q L st σ nc ns) pr pc
end
section

/-! what holds all through a method's run -/
def Cx (p : Program) (s : State) (m : MethodId) (args : Array Value) (c : Code) (cc : ByteArray) (nL : Nat) (own : String) (D : va_G) (cA : Nat → ClassId) (ad : Pl → Nat) (A : Nat → Prop) : Prop :=
  p.tables.exec = Jvm.exec ∧ c.code = cc ∧ c.maxLocals = nL ∧ s.vm.findClass own = some m.cls ∧ (∀ w ∈ GWS, w.before args s = true) ∧ va_K D vwCl (TY cA) s ∧ (∀ σ, va_D A (wl ad cA σ)) ∧ (∀ q, s.heap.size ≤ q → A q) ∧ STt ad A s
/-- from an abstract state on, the machine comes to Q -/
def GW (p : Program) (l : Launch) (e : Env) (R : Room) (s : State) (m : MethodId) (args : Array Value) (below : List Frame) (meth : Method) (c : Code) (Q : State → Prop) (nL : Nat) (D : va_G) (cA : Nat → ClassId) (ad : Pl → Nat) (A : Nat → Prop) (pc : Nat) (L : List (Option AV)) (st : List AV) (σ : Sg) (nc ns : Nat) : Prop :=
  okL L → okS st → L.length = nL → ∀ (H : Heap) (locs : List Loc) (ls : Array Slot), va_P D vwCl (wl ad cA σ) H → va_S A s.heap H locs → lv_has ls nL (prs ad 0 L) → W p l e R s m args below meth c H locs nc ns Q (F0 m pc ls (st.map (cv ad)))
theorem okS_c {v : AV} {st : List AV} (h : okS (v :: st)) : okv v ∧ okS st := ⟨h v List.mem_cons_self, fun w hw => h w (List.mem_cons_of_mem _ hw)⟩
theorem okS_p {v : AV} {st : List AV} (hv : okv v) (h : okS st) : okS (v :: st) := fun w hw => by
  rcases List.mem_cons.mp hw with e | e
  · rw [e]; exact hv
  · exact h w e
theorem okS_i {x : Int} {st : List AV} (h : okS st) : okS (.inl x :: st) := okS_p trivial h
theorem okS_i2 {x y : Int} {st : List AV} (h : okS (.inl y :: .inl x :: st)) : okS st := (okS_c (okS_c h).2).2
/-- a valid place of the world: its cell -/
theorem wl_ok {ad : Pl → Nat} {cA : Nat → ClassId} {σ : Sg} {k e i : Nat} (h : okv (.inr (k, e, i))) (hn : isSt k = false) : ∃ n : Nat, PLs[n]? = some (k, e, i) ∧ (wl ad cA σ)[n]? = some (ad (k, e, i), cel ad cA (k, e, i) (σ k e i)) := by
  obtain ⟨n, hn⟩ := List.mem_iff_getElem?.mp (PL_mem k e i h.1 h.2 hn)
  exact ⟨n, hn, wl_at hn⟩
theorem cel_o {ad : Pl → Nat} {cA : Nat → ClassId} {k e i ci : Nat} {sl : List (Option (Nat × Nat))} {f : Nat → Int} (h : SH k = .inl (ci, sl)) : cel ad cA (k, e, i) f = .inr (ci, slv ad f e i sl) := by
  simp only [cel, h]
theorem cel_i {ad : Pl → Nat} {cA : Nat → ClassId} {k e i n : Nat} {r : Nat × Nat} {f : Nat → Int} (h : SH k = .inr (0, n, r)) : cel ad cA (k, e, i) f = .inl (cA 0, n, .inl (fun j => iI (f j))) := by
  simp only [cel, h]
theorem cel_r {ad : Pl → Nat} {cA : Nat → ClassId} {k e i n t : Nat} {r : Nat × Nat} {f : Nat → Int} (h : SH k = .inr (t + 2, n, r)) : cel ad cA (k, e, i) f = .inl (cA (t + 2), n, .inr (.inr (.inr (.inr (fun j => some (ad (tgt r e i j))))))) := by
  simp only [cel, h]
section GR
variable {p : Program} {l : Launch} {e : Env} {R : Room} {s : State} {m : MethodId} {args : Array Value} {below : List Frame} {meth : Method} {c : Code} {Q : State → Prop}
variable {cc : ByteArray} {nL : Nat} {own : String} {D : va_G} {cA : Nat → ClassId} {ad : Pl → Nat} {A : Nat → Prop} {pc : Nat} {L : List (Option AV)} {st : List AV} {σ : Sg} {nc ns : Nat}
theorem g_iconst (C : Cx p s m args c cc nL own D cA ad A) {b : Int} (hd : decode cc pc = .ok (.iconst b, 1)) (h : GW p l e R s m args below meth c Q nL D cA ad A (pc + 1) (L) (.inl b :: st) (σ) (nc) (ns)) : GW p l e R s m args below meth c Q nL D cA ad A (pc) (L) (st) (σ) (nc) (ns) :=
  fun o1 o2 o3 H locs ls hP hS hl => lv_iconst (v := iI b) C.1 C.2.1 hd rfl (h o1 (okS_i o2) o3 H locs ls hP hS hl)
theorem g_bipush (C : Cx p s m args c cc nL own D cA ad A) {b : Int} (hd : decode cc pc = .ok (.bipush b, 2)) (hv : (Int8.ofInt b).toInt32 = iI b) (h : GW p l e R s m args below meth c Q nL D cA ad A (pc + 2) (L) (.inl b :: st) (σ) (nc) (ns)) : GW p l e R s m args below meth c Q nL D cA ad A (pc) (L) (st) (σ) (nc) (ns) :=
  fun o1 o2 o3 H locs ls hP hS hl => lv_bipush (v := iI b) C.1 C.2.1 hd hv (h o1 (okS_i o2) o3 H locs ls hP hS hl)
theorem g_sipush (C : Cx p s m args c cc nL own D cA ad A) {b : Int} (hd : decode cc pc = .ok (.sipush b, 3)) (hv : (Int16.ofInt b).toInt32 = iI b) (h : GW p l e R s m args below meth c Q nL D cA ad A (pc + 3) (L) (.inl b :: st) (σ) (nc) (ns)) : GW p l e R s m args below meth c Q nL D cA ad A (pc) (L) (st) (σ) (nc) (ns) :=
  fun o1 o2 o3 H locs ls hP hS hl => lv_sipush (v := iI b) C.1 C.2.1 hd hv (h o1 (okS_i o2) o3 H locs ls hP hS hl)
theorem g_iload_n (C : Cx p s m args c cc nL own D cA ad A) {a : Nat} (ha : a < 4) (hd : decode cc pc = .ok (.iload_n (Fin.ofNat 4 a), 1)) (h : lgetK (fun v => match v with
      | .inl x => GW p l e R s m args below meth c Q nL D cA ad A (pc + 1) (L) (.inl x :: st) (σ) (nc) (ns)
      | .inr x => False) L a) : GW p l e R s m args below meth c Q nL D cA ad A (pc) (L) (st) (σ) (nc) (ns) := by
  intro o1 o2 o3 H locs ls hP hS hl
  obtain ⟨v, h1, h2, h3⟩ := lgetK_sp ad _ L a 0 h
  rw [Nat.zero_add] at h1
  rcases v with x | x
  · exact lv_iload_n C.1 C.2.1 hd (Nat.mod_eq_of_lt ha) (hl.2.2 _ h1) (h3 o1 (okS_i o2) o3 H locs ls hP hS hl)
  · exact h3.elim
theorem g_iload (C : Cx p s m args c cc nL own D cA ad A) {a : Nat} (hd : decode cc pc = .ok (.iload a, 2)) (h : lgetK (fun v => match v with
      | .inl x => GW p l e R s m args below meth c Q nL D cA ad A (pc + 2) (L) (.inl x :: st) (σ) (nc) (ns)
      | .inr x => False) L a) : GW p l e R s m args below meth c Q nL D cA ad A (pc) (L) (st) (σ) (nc) (ns) := by
  intro o1 o2 o3 H locs ls hP hS hl
  obtain ⟨v, h1, h2, h3⟩ := lgetK_sp ad _ L a 0 h
  rw [Nat.zero_add] at h1
  rcases v with x | x
  · exact lv_iload C.1 C.2.1 hd (hl.2.2 _ h1) (h3 o1 (okS_i o2) o3 H locs ls hP hS hl)
  · exact h3.elim
theorem g_aload_n (C : Cx p s m args c cc nL own D cA ad A) {a : Nat} (ha : a < 4) (hd : decode cc pc = .ok (.aload_n (Fin.ofNat 4 a), 1)) (h : lgetK (fun v => match v with
      | .inl x => False
      | .inr x => GW p l e R s m args below meth c Q nL D cA ad A (pc + 1) (L) (.inr x :: st) (σ) (nc) (ns)) L a) : GW p l e R s m args below meth c Q nL D cA ad A (pc) (L) (st) (σ) (nc) (ns) := by
  intro o1 o2 o3 H locs ls hP hS hl
  obtain ⟨v, h1, h2, h3⟩ := lgetK_sp ad _ L a 0 h
  rw [Nat.zero_add] at h1
  rcases v with x | x
  · exact h3.elim
  · exact lv_aload_n C.1 C.2.1 hd (Nat.mod_eq_of_lt ha) (hl.2.2 _ h1) (h3 o1 (okS_p (o1 _ h2) o2) o3 H locs ls hP hS hl)
theorem g_aload (C : Cx p s m args c cc nL own D cA ad A) {a : Nat} (hd : decode cc pc = .ok (.aload a, 2)) (h : lgetK (fun v => match v with
      | .inl x => False
      | .inr x => GW p l e R s m args below meth c Q nL D cA ad A (pc + 2) (L) (.inr x :: st) (σ) (nc) (ns)) L a) : GW p l e R s m args below meth c Q nL D cA ad A (pc) (L) (st) (σ) (nc) (ns) := by
  intro o1 o2 o3 H locs ls hP hS hl
  obtain ⟨v, h1, h2, h3⟩ := lgetK_sp ad _ L a 0 h
  rw [Nat.zero_add] at h1
  rcases v with x | x
  · exact h3.elim
  · exact lv_aload C.1 C.2.1 hd (hl.2.2 _ h1) (h3 o1 (okS_p (o1 _ h2) o2) o3 H locs ls hP hS hl)
theorem g_istore_n (C : Cx p s m args c cc nL own D cA ad A) {a : Nat} {x : Int} (ha : a < 4) (hd : decode cc pc = .ok (.istore_n (Fin.ofNat 4 a), 1)) (h : lsetK L a (.inl x) (fun L => GW p l e R s m args below meth c Q nL D cA ad A (pc + 1) (L) (st) (σ) (nc) (ns))) : GW p l e R s m args below meth c Q nL D cA ad A (pc) (L) (.inl x :: st) (σ) (nc) (ns) := by
  intro o1 o2 o3 H locs ls hP hS hl
  obtain ⟨L', h1, h2, h3, h4, h5⟩ := lsetK_sp ad _ L a 0 _ h
  refine lv_istore_n C.1 C.2.1 hd (Nat.mod_eq_of_lt ha) hl (by omega) rfl (fun ls' hl' => ?_)
  exact h1 (okL_set h5 o1 (okS_c o2).1) (okS_c o2).2 (h2.trans o3) H locs ls' hP hS (lv_of hl' (prs_store h4 rfl))
theorem g_istore (C : Cx p s m args c cc nL own D cA ad A) {a : Nat} {x : Int} (hd : decode cc pc = .ok (.istore a, 2)) (h : lsetK L a (.inl x) (fun L => GW p l e R s m args below meth c Q nL D cA ad A (pc + 2) (L) (st) (σ) (nc) (ns))) : GW p l e R s m args below meth c Q nL D cA ad A (pc) (L) (.inl x :: st) (σ) (nc) (ns) := by
  intro o1 o2 o3 H locs ls hP hS hl
  obtain ⟨L', h1, h2, h3, h4, h5⟩ := lsetK_sp ad _ L a 0 _ h
  refine lv_istore C.1 C.2.1 hd hl (by omega) rfl (fun ls' hl' => ?_)
  exact h1 (okL_set h5 o1 (okS_c o2).1) (okS_c o2).2 (h2.trans o3) H locs ls' hP hS (lv_of hl' (prs_store h4 rfl))
theorem g_astore_n (C : Cx p s m args c cc nL own D cA ad A) {a : Nat} {x : Pl} (ha : a < 4) (hd : decode cc pc = .ok (.astore_n (Fin.ofNat 4 a), 1)) (h : lsetK L a (.inr x) (fun L => GW p l e R s m args below meth c Q nL D cA ad A (pc + 1) (L) (st) (σ) (nc) (ns))) : GW p l e R s m args below meth c Q nL D cA ad A (pc) (L) (.inr x :: st) (σ) (nc) (ns) := by
  intro o1 o2 o3 H locs ls hP hS hl
  obtain ⟨L', h1, h2, h3, h4, h5⟩ := lsetK_sp ad _ L a 0 _ h
  refine lv_astore_n C.1 C.2.1 hd (Nat.mod_eq_of_lt ha) hl (by omega) rfl (fun ls' hl' => ?_)
  exact h1 (okL_set h5 o1 (okS_c o2).1) (okS_c o2).2 (h2.trans o3) H locs ls' hP hS (lv_of hl' (prs_store h4 rfl))
theorem g_astore (C : Cx p s m args c cc nL own D cA ad A) {a : Nat} {x : Pl} (hd : decode cc pc = .ok (.astore a, 2)) (h : lsetK L a (.inr x) (fun L => GW p l e R s m args below meth c Q nL D cA ad A (pc + 2) (L) (st) (σ) (nc) (ns))) : GW p l e R s m args below meth c Q nL D cA ad A (pc) (L) (.inr x :: st) (σ) (nc) (ns) := by
  intro o1 o2 o3 H locs ls hP hS hl
  obtain ⟨L', h1, h2, h3, h4, h5⟩ := lsetK_sp ad _ L a 0 _ h
  refine lv_astore C.1 C.2.1 hd hl (by omega) rfl (fun ls' hl' => ?_)
  exact h1 (okL_set h5 o1 (okS_c o2).1) (okS_c o2).2 (h2.trans o3) H locs ls' hP hS (lv_of hl' (prs_store h4 rfl))
theorem g_iinc (C : Cx p s m args c cc nL own D cA ad A) {a : Nat} {b : Int} (hd : decode cc pc = .ok (.iinc a b, 3)) (h : lgetK (fun v => match v with
      | .inl x => lsetK L a (.inl (x + b)) (fun L => GW p l e R s m args below meth c Q nL D cA ad A (pc + 3) (L) (st) (σ) (nc) (ns))
      | .inr _ => False) L a) : GW p l e R s m args below meth c Q nL D cA ad A (pc) (L) (st) (σ) (nc) (ns) := by
  intro o1 o2 o3 H locs ls hP hS hl
  obtain ⟨v, h1, h2, h3⟩ := lgetK_sp ad _ L a 0 h
  rw [Nat.zero_add] at h1
  rcases v with x | x
  · obtain ⟨L', g1, g2, g3, g4, g5⟩ := lsetK_sp ad _ L a 0 _ h3
    obtain ⟨k, hk⟩ := List.mem_iff_getElem?.mp h1
    refine lv_iinc (v := iI (x + b)) C.1 C.2.1 hd hl hk (iI_add x b) (by omega) rfl (fun ls' hl' => ?_)
    exact g1 (okL_set g5 o1 trivial) o2 (g2.trans o3) H locs ls' hP hS (lv_of hl' (prs_store g4 rfl))
  · exact h3.elim
theorem g_iadd (C : Cx p s m args c cc nL own D cA ad A) {x y : Int} (hd : decode cc pc = .ok (.iadd, 1)) (h : GW p l e R s m args below meth c Q nL D cA ad A (pc + 1) (L) (.inl (x + y) :: st) (σ) (nc) (ns)) : GW p l e R s m args below meth c Q nL D cA ad A (pc) (L) (.inl y :: .inl x :: st) (σ) (nc) (ns) := by
  intro o1 o2 o3 H locs ls hP hS hl
  refine lv_iadd (x := iI x) (y := iI y) C.1 C.2.1 hd ?_
  rw [iI_add x y]
  exact h o1 (okS_i (okS_i2 o2)) o3 H locs ls hP hS hl
theorem g_isub (C : Cx p s m args c cc nL own D cA ad A) {x y : Int} (hd : decode cc pc = .ok (.isub, 1)) (h : GW p l e R s m args below meth c Q nL D cA ad A (pc + 1) (L) (.inl (x - y) :: st) (σ) (nc) (ns)) : GW p l e R s m args below meth c Q nL D cA ad A (pc) (L) (.inl y :: .inl x :: st) (σ) (nc) (ns) := by
  intro o1 o2 o3 H locs ls hP hS hl
  refine lv_isub (x := iI x) (y := iI y) C.1 C.2.1 hd ?_
  rw [iI_sub x y]
  exact h o1 (okS_i (okS_i2 o2)) o3 H locs ls hP hS hl
theorem g_imul (C : Cx p s m args c cc nL own D cA ad A) {x y : Int} (hd : decode cc pc = .ok (.imul, 1)) (h : GW p l e R s m args below meth c Q nL D cA ad A (pc + 1) (L) (.inl (x * y) :: st) (σ) (nc) (ns)) : GW p l e R s m args below meth c Q nL D cA ad A (pc) (L) (.inl y :: .inl x :: st) (σ) (nc) (ns) := by
  intro o1 o2 o3 H locs ls hP hS hl
  refine lv_imul (x := iI x) (y := iI y) C.1 C.2.1 hd ?_
  rw [iI_mul x y]
  exact h o1 (okS_i (okS_i2 o2)) o3 H locs ls hP hS hl
theorem g_iand (C : Cx p s m args c cc nL own D cA ad A) {x y : Int} (hd : decode cc pc = .ok (.iand, 1)) (h : GW p l e R s m args below meth c Q nL D cA ad A (pc + 1) (L) (.inl (ian x y) :: st) (σ) (nc) (ns)) : GW p l e R s m args below meth c Q nL D cA ad A (pc) (L) (.inl y :: .inl x :: st) (σ) (nc) (ns) := by
  intro o1 o2 o3 H locs ls hP hS hl
  refine lv_iand (x := iI x) (y := iI y) C.1 C.2.1 hd ?_
  rw [(iI_ian x y).symm]
  exact h o1 (okS_i (okS_i2 o2)) o3 H locs ls hP hS hl
theorem g_ior (C : Cx p s m args c cc nL own D cA ad A) {x y : Int} (hd : decode cc pc = .ok (.ior, 1)) (h : GW p l e R s m args below meth c Q nL D cA ad A (pc + 1) (L) (.inl (ior x y) :: st) (σ) (nc) (ns)) : GW p l e R s m args below meth c Q nL D cA ad A (pc) (L) (.inl y :: .inl x :: st) (σ) (nc) (ns) := by
  intro o1 o2 o3 H locs ls hP hS hl
  refine lv_ior (x := iI x) (y := iI y) C.1 C.2.1 hd ?_
  rw [(iI_ior x y).symm]
  exact h o1 (okS_i (okS_i2 o2)) o3 H locs ls hP hS hl
theorem g_ixor (C : Cx p s m args c cc nL own D cA ad A) {x y : Int} (hd : decode cc pc = .ok (.ixor, 1)) (h : GW p l e R s m args below meth c Q nL D cA ad A (pc + 1) (L) (.inl (ixr x y) :: st) (σ) (nc) (ns)) : GW p l e R s m args below meth c Q nL D cA ad A (pc) (L) (.inl y :: .inl x :: st) (σ) (nc) (ns) := by
  intro o1 o2 o3 H locs ls hP hS hl
  refine lv_ixor (x := iI x) (y := iI y) C.1 C.2.1 hd ?_
  rw [(iI_ixr x y).symm]
  exact h o1 (okS_i (okS_i2 o2)) o3 H locs ls hP hS hl
theorem g_ishl (C : Cx p s m args c cc nL own D cA ad A) {x y : Int} (hd : decode cc pc = .ok (.ishl, 1)) (h : GW p l e R s m args below meth c Q nL D cA ad A (pc + 1) (L) (.inl (isl x y) :: st) (σ) (nc) (ns)) : GW p l e R s m args below meth c Q nL D cA ad A (pc) (L) (.inl y :: .inl x :: st) (σ) (nc) (ns) := by
  intro o1 o2 o3 H locs ls hP hS hl
  refine lv_ishl (x := iI x) (y := iI y) C.1 C.2.1 hd ?_
  rw [(iI_isl x y).symm]
  exact h o1 (okS_i (okS_i2 o2)) o3 H locs ls hP hS hl
theorem g_ishr (C : Cx p s m args c cc nL own D cA ad A) {x y : Int} (hd : decode cc pc = .ok (.ishr, 1)) (h : GW p l e R s m args below meth c Q nL D cA ad A (pc + 1) (L) (.inl (isr x y) :: st) (σ) (nc) (ns)) : GW p l e R s m args below meth c Q nL D cA ad A (pc) (L) (.inl y :: .inl x :: st) (σ) (nc) (ns) := by
  intro o1 o2 o3 H locs ls hP hS hl
  refine lv_ishr (x := iI x) (y := iI y) C.1 C.2.1 hd ?_
  rw [(iI_isr x y).symm]
  exact h o1 (okS_i (okS_i2 o2)) o3 H locs ls hP hS hl
theorem g_ineg (C : Cx p s m args c cc nL own D cA ad A) {x : Int} (hd : decode cc pc = .ok (.ineg, 1)) (h : GW p l e R s m args below meth c Q nL D cA ad A (pc + 1) (L) (.inl (-x) :: st) (σ) (nc) (ns)) : GW p l e R s m args below meth c Q nL D cA ad A (pc) (L) (.inl x :: st) (σ) (nc) (ns) := by
  intro o1 o2 o3 H locs ls hP hS hl
  refine lv_ineg (x := iI x) C.1 C.2.1 hd ?_
  rw [iI_neg x]
  exact h o1 (okS_i (okS_c o2).2) o3 H locs ls hP hS hl
theorem g_idiv (C : Cx p s m args c cc nL own D cA ad A) {x y : Int} (hd : decode cc pc = .ok (.idiv, 1)) (hh : 0 ≤ nrm x ∧ 0 < y ∧ y ≤ 2147483647) (h : GW p l e R s m args below meth c Q nL D cA ad A (pc + 1) (L) (.inl (nrm x / y) :: st) (σ) (nc) (ns)) : GW p l e R s m args below meth c Q nL D cA ad A (pc) (L) (.inl y :: .inl x :: st) (σ) (nc) (ns) := by
  intro o1 o2 o3 H locs ls hP hS hl
  refine lv_idiv (x := iI x) (y := iI y) C.1 C.2.1 hd (iI_ne0 hh.2.1 hh.2.2) ?_
  rw [iI_div hh.1 hh.2.1 hh.2.2]
  exact h o1 (okS_i (okS_i2 o2)) o3 H locs ls hP hS hl
theorem g_irem (C : Cx p s m args c cc nL own D cA ad A) {x y : Int} (hd : decode cc pc = .ok (.irem, 1)) (hh : 0 ≤ nrm x ∧ 0 < y ∧ y ≤ 2147483647) (h : GW p l e R s m args below meth c Q nL D cA ad A (pc + 1) (L) (.inl (nrm x % y) :: st) (σ) (nc) (ns)) : GW p l e R s m args below meth c Q nL D cA ad A (pc) (L) (.inl y :: .inl x :: st) (σ) (nc) (ns) := by
  intro o1 o2 o3 H locs ls hP hS hl
  refine lv_irem (x := iI x) (y := iI y) C.1 C.2.1 hd (iI_ne0 hh.2.1 hh.2.2) ?_
  rw [iI_rem hh.1 hh.2.1 hh.2.2]
  exact h o1 (okS_i (okS_i2 o2)) o3 H locs ls hP hS hl
theorem g_dup (C : Cx p s m args c cc nL own D cA ad A) {v : AV} (hd : decode cc pc = .ok (.dup, 1)) (h : GW p l e R s m args below meth c Q nL D cA ad A (pc + 1) (L) (v :: v :: st) (σ) (nc) (ns)) : GW p l e R s m args below meth c Q nL D cA ad A (pc) (L) (v :: st) (σ) (nc) (ns) :=
  fun o1 o2 o3 H locs ls hP hS hl => lv_dup C.1 C.2.1 hd (cv_cat ad v) (h o1 (okS_p (okS_c o2).1 o2) o3 H locs ls hP hS hl)
theorem g_pop (C : Cx p s m args c cc nL own D cA ad A) {v : AV} (hd : decode cc pc = .ok (.pop, 1)) (h : GW p l e R s m args below meth c Q nL D cA ad A (pc + 1) (L) (st) (σ) (nc) (ns)) : GW p l e R s m args below meth c Q nL D cA ad A (pc) (L) (v :: st) (σ) (nc) (ns) :=
  fun o1 o2 o3 H locs ls hP hS hl => lv_pop C.1 C.2.1 hd (cv_cat ad v) (h o1 (okS_c o2).2 o3 H locs ls hP hS hl)
theorem g_dup2 (C : Cx p s m args c cc nL own D cA ad A) {v w : AV} (hd : decode cc pc = .ok (.dup2, 1)) (h : GW p l e R s m args below meth c Q nL D cA ad A (pc + 1) (L) (v :: w :: v :: w :: st) (σ) (nc) (ns)) : GW p l e R s m args below meth c Q nL D cA ad A (pc) (L) (v :: w :: st) (σ) (nc) (ns) :=
  fun o1 o2 o3 H locs ls hP hS hl => lv_dup2_11 C.1 C.2.1 hd (cv_cat ad v) (cv_cat ad w) (h o1 (okS_p (okS_c o2).1 (okS_p (okS_c (okS_c o2).2).1 o2)) o3 H locs ls hP hS hl)
theorem g_if_eq (C : Cx p s m args c cc nL own D cA ad A) {x : Int} {off : Int} {tg : Nat} (hd : decode cc pc = .ok (.ifCond .eq off, 3)) (ht : (pc : Int) + off = (tg : Int)) (h : (nrm x = 0 → GW p l e R s m args below meth c Q nL D cA ad A (tg) (L) (st) (σ) (nc) (ns)) ∧ (¬ nrm x = 0 → GW p l e R s m args below meth c Q nL D cA ad A (pc + 3) (L) (st) (σ) (nc) (ns))) : GW p l e R s m args below meth c Q nL D cA ad A (pc) (L) (.inl x :: st) (σ) (nc) (ns) := by
  intro o1 o2 o3 H locs ls hP hS hl
  refine lv_if_eq (x := iI x) C.1 C.2.1 hd ht (fun hc => h.1 ?_ o1 (okS_c o2).2 o3 H locs ls hP hS hl) (fun hc => h.2 ?_ o1 (okS_c o2).2 o3 H locs ls hP hS hl)
  · rw [iI_0, iI_eq, nrm_0] at hc
    omega
  · rw [iI_0, iI_eq, nrm_0] at hc
    omega
theorem g_if_ne (C : Cx p s m args c cc nL own D cA ad A) {x : Int} {off : Int} {tg : Nat} (hd : decode cc pc = .ok (.ifCond .ne off, 3)) (ht : (pc : Int) + off = (tg : Int)) (h : (¬ nrm x = 0 → GW p l e R s m args below meth c Q nL D cA ad A (tg) (L) (st) (σ) (nc) (ns)) ∧ (nrm x = 0 → GW p l e R s m args below meth c Q nL D cA ad A (pc + 3) (L) (st) (σ) (nc) (ns))) : GW p l e R s m args below meth c Q nL D cA ad A (pc) (L) (.inl x :: st) (σ) (nc) (ns) := by
  intro o1 o2 o3 H locs ls hP hS hl
  refine lv_if_ne (x := iI x) C.1 C.2.1 hd ht (fun hc => h.1 ?_ o1 (okS_c o2).2 o3 H locs ls hP hS hl) (fun hc => h.2 ?_ o1 (okS_c o2).2 o3 H locs ls hP hS hl)
  · rw [iI_0, iI_eq, nrm_0] at hc
    omega
  · rw [iI_0, iI_eq, nrm_0] at hc
    omega
theorem g_if_lt (C : Cx p s m args c cc nL own D cA ad A) {x : Int} {off : Int} {tg : Nat} (hd : decode cc pc = .ok (.ifCond .lt off, 3)) (ht : (pc : Int) + off = (tg : Int)) (h : (nrm x < 0 → GW p l e R s m args below meth c Q nL D cA ad A (tg) (L) (st) (σ) (nc) (ns)) ∧ (0 ≤ nrm x → GW p l e R s m args below meth c Q nL D cA ad A (pc + 3) (L) (st) (σ) (nc) (ns))) : GW p l e R s m args below meth c Q nL D cA ad A (pc) (L) (.inl x :: st) (σ) (nc) (ns) := by
  intro o1 o2 o3 H locs ls hP hS hl
  refine lv_if_lt (x := iI x) C.1 C.2.1 hd ht (fun hc => h.1 ?_ o1 (okS_c o2).2 o3 H locs ls hP hS hl) (fun hc => h.2 ?_ o1 (okS_c o2).2 o3 H locs ls hP hS hl)
  · rw [iI_0, iI_lt, nrm_0] at hc
    omega
  · rw [iI_0, iI_lt, nrm_0] at hc
    omega
theorem g_if_ge (C : Cx p s m args c cc nL own D cA ad A) {x : Int} {off : Int} {tg : Nat} (hd : decode cc pc = .ok (.ifCond .ge off, 3)) (ht : (pc : Int) + off = (tg : Int)) (h : (0 ≤ nrm x → GW p l e R s m args below meth c Q nL D cA ad A (tg) (L) (st) (σ) (nc) (ns)) ∧ (nrm x < 0 → GW p l e R s m args below meth c Q nL D cA ad A (pc + 3) (L) (st) (σ) (nc) (ns))) : GW p l e R s m args below meth c Q nL D cA ad A (pc) (L) (.inl x :: st) (σ) (nc) (ns) := by
  intro o1 o2 o3 H locs ls hP hS hl
  refine lv_if_ge (x := iI x) C.1 C.2.1 hd ht (fun hc => h.1 ?_ o1 (okS_c o2).2 o3 H locs ls hP hS hl) (fun hc => h.2 ?_ o1 (okS_c o2).2 o3 H locs ls hP hS hl)
  · rw [iI_0, iI_le, nrm_0] at hc
    omega
  · rw [iI_0, iI_le, nrm_0] at hc
    omega
theorem g_if_gt (C : Cx p s m args c cc nL own D cA ad A) {x : Int} {off : Int} {tg : Nat} (hd : decode cc pc = .ok (.ifCond .gt off, 3)) (ht : (pc : Int) + off = (tg : Int)) (h : (0 < nrm x → GW p l e R s m args below meth c Q nL D cA ad A (tg) (L) (st) (σ) (nc) (ns)) ∧ (nrm x ≤ 0 → GW p l e R s m args below meth c Q nL D cA ad A (pc + 3) (L) (st) (σ) (nc) (ns))) : GW p l e R s m args below meth c Q nL D cA ad A (pc) (L) (.inl x :: st) (σ) (nc) (ns) := by
  intro o1 o2 o3 H locs ls hP hS hl
  refine lv_if_gt (x := iI x) C.1 C.2.1 hd ht (fun hc => h.1 ?_ o1 (okS_c o2).2 o3 H locs ls hP hS hl) (fun hc => h.2 ?_ o1 (okS_c o2).2 o3 H locs ls hP hS hl)
  · rw [iI_0, iI_lt, nrm_0] at hc
    omega
  · rw [iI_0, iI_lt, nrm_0] at hc
    omega
theorem g_if_le (C : Cx p s m args c cc nL own D cA ad A) {x : Int} {off : Int} {tg : Nat} (hd : decode cc pc = .ok (.ifCond .le off, 3)) (ht : (pc : Int) + off = (tg : Int)) (h : (nrm x ≤ 0 → GW p l e R s m args below meth c Q nL D cA ad A (tg) (L) (st) (σ) (nc) (ns)) ∧ (0 < nrm x → GW p l e R s m args below meth c Q nL D cA ad A (pc + 3) (L) (st) (σ) (nc) (ns))) : GW p l e R s m args below meth c Q nL D cA ad A (pc) (L) (.inl x :: st) (σ) (nc) (ns) := by
  intro o1 o2 o3 H locs ls hP hS hl
  refine lv_if_le (x := iI x) C.1 C.2.1 hd ht (fun hc => h.1 ?_ o1 (okS_c o2).2 o3 H locs ls hP hS hl) (fun hc => h.2 ?_ o1 (okS_c o2).2 o3 H locs ls hP hS hl)
  · rw [iI_0, iI_le, nrm_0] at hc
    omega
  · rw [iI_0, iI_le, nrm_0] at hc
    omega
theorem g_icmp_eq (C : Cx p s m args c cc nL own D cA ad A) {x y : Int} {off : Int} {tg : Nat} (hd : decode cc pc = .ok (.if_icmp .eq off, 3)) (ht : (pc : Int) + off = (tg : Int)) (h : (nrm x = nrm y → GW p l e R s m args below meth c Q nL D cA ad A (tg) (L) (st) (σ) (nc) (ns)) ∧ (¬ nrm x = nrm y → GW p l e R s m args below meth c Q nL D cA ad A (pc + 3) (L) (st) (σ) (nc) (ns))) : GW p l e R s m args below meth c Q nL D cA ad A (pc) (L) (.inl y :: .inl x :: st) (σ) (nc) (ns) := by
  intro o1 o2 o3 H locs ls hP hS hl
  refine lv_icmp_eq (x := iI x) (y := iI y) C.1 C.2.1 hd ht (fun hc => h.1 ?_ o1 (okS_i2 o2) o3 H locs ls hP hS hl) (fun hc => h.2 ?_ o1 (okS_i2 o2) o3 H locs ls hP hS hl)
  · rw [iI_eq] at hc
    omega
  · rw [iI_eq] at hc
    omega
theorem g_icmp_ne (C : Cx p s m args c cc nL own D cA ad A) {x y : Int} {off : Int} {tg : Nat} (hd : decode cc pc = .ok (.if_icmp .ne off, 3)) (ht : (pc : Int) + off = (tg : Int)) (h : (¬ nrm x = nrm y → GW p l e R s m args below meth c Q nL D cA ad A (tg) (L) (st) (σ) (nc) (ns)) ∧ (nrm x = nrm y → GW p l e R s m args below meth c Q nL D cA ad A (pc + 3) (L) (st) (σ) (nc) (ns))) : GW p l e R s m args below meth c Q nL D cA ad A (pc) (L) (.inl y :: .inl x :: st) (σ) (nc) (ns) := by
  intro o1 o2 o3 H locs ls hP hS hl
  refine lv_icmp_ne (x := iI x) (y := iI y) C.1 C.2.1 hd ht (fun hc => h.1 ?_ o1 (okS_i2 o2) o3 H locs ls hP hS hl) (fun hc => h.2 ?_ o1 (okS_i2 o2) o3 H locs ls hP hS hl)
  · rw [iI_eq] at hc
    omega
  · rw [iI_eq] at hc
    omega
theorem g_icmp_lt (C : Cx p s m args c cc nL own D cA ad A) {x y : Int} {off : Int} {tg : Nat} (hd : decode cc pc = .ok (.if_icmp .lt off, 3)) (ht : (pc : Int) + off = (tg : Int)) (h : (nrm x < nrm y → GW p l e R s m args below meth c Q nL D cA ad A (tg) (L) (st) (σ) (nc) (ns)) ∧ (nrm y ≤ nrm x → GW p l e R s m args below meth c Q nL D cA ad A (pc + 3) (L) (st) (σ) (nc) (ns))) : GW p l e R s m args below meth c Q nL D cA ad A (pc) (L) (.inl y :: .inl x :: st) (σ) (nc) (ns) := by
  intro o1 o2 o3 H locs ls hP hS hl
  refine lv_icmp_lt (x := iI x) (y := iI y) C.1 C.2.1 hd ht (fun hc => h.1 ?_ o1 (okS_i2 o2) o3 H locs ls hP hS hl) (fun hc => h.2 ?_ o1 (okS_i2 o2) o3 H locs ls hP hS hl)
  · rw [iI_lt] at hc
    omega
  · rw [iI_lt] at hc
    omega
theorem g_icmp_ge (C : Cx p s m args c cc nL own D cA ad A) {x y : Int} {off : Int} {tg : Nat} (hd : decode cc pc = .ok (.if_icmp .ge off, 3)) (ht : (pc : Int) + off = (tg : Int)) (h : (nrm y ≤ nrm x → GW p l e R s m args below meth c Q nL D cA ad A (tg) (L) (st) (σ) (nc) (ns)) ∧ (nrm x < nrm y → GW p l e R s m args below meth c Q nL D cA ad A (pc + 3) (L) (st) (σ) (nc) (ns))) : GW p l e R s m args below meth c Q nL D cA ad A (pc) (L) (.inl y :: .inl x :: st) (σ) (nc) (ns) := by
  intro o1 o2 o3 H locs ls hP hS hl
  refine lv_icmp_ge (x := iI x) (y := iI y) C.1 C.2.1 hd ht (fun hc => h.1 ?_ o1 (okS_i2 o2) o3 H locs ls hP hS hl) (fun hc => h.2 ?_ o1 (okS_i2 o2) o3 H locs ls hP hS hl)
  · rw [iI_le] at hc
    omega
  · rw [iI_le] at hc
    omega
theorem g_icmp_gt (C : Cx p s m args c cc nL own D cA ad A) {x y : Int} {off : Int} {tg : Nat} (hd : decode cc pc = .ok (.if_icmp .gt off, 3)) (ht : (pc : Int) + off = (tg : Int)) (h : (nrm y < nrm x → GW p l e R s m args below meth c Q nL D cA ad A (tg) (L) (st) (σ) (nc) (ns)) ∧ (nrm x ≤ nrm y → GW p l e R s m args below meth c Q nL D cA ad A (pc + 3) (L) (st) (σ) (nc) (ns))) : GW p l e R s m args below meth c Q nL D cA ad A (pc) (L) (.inl y :: .inl x :: st) (σ) (nc) (ns) := by
  intro o1 o2 o3 H locs ls hP hS hl
  refine lv_icmp_gt (x := iI x) (y := iI y) C.1 C.2.1 hd ht (fun hc => h.1 ?_ o1 (okS_i2 o2) o3 H locs ls hP hS hl) (fun hc => h.2 ?_ o1 (okS_i2 o2) o3 H locs ls hP hS hl)
  · rw [iI_lt] at hc
    omega
  · rw [iI_lt] at hc
    omega
theorem g_icmp_le (C : Cx p s m args c cc nL own D cA ad A) {x y : Int} {off : Int} {tg : Nat} (hd : decode cc pc = .ok (.if_icmp .le off, 3)) (ht : (pc : Int) + off = (tg : Int)) (h : (nrm x ≤ nrm y → GW p l e R s m args below meth c Q nL D cA ad A (tg) (L) (st) (σ) (nc) (ns)) ∧ (nrm y < nrm x → GW p l e R s m args below meth c Q nL D cA ad A (pc + 3) (L) (st) (σ) (nc) (ns))) : GW p l e R s m args below meth c Q nL D cA ad A (pc) (L) (.inl y :: .inl x :: st) (σ) (nc) (ns) := by
  intro o1 o2 o3 H locs ls hP hS hl
  refine lv_icmp_le (x := iI x) (y := iI y) C.1 C.2.1 hd ht (fun hc => h.1 ?_ o1 (okS_i2 o2) o3 H locs ls hP hS hl) (fun hc => h.2 ?_ o1 (okS_i2 o2) o3 H locs ls hP hS hl)
  · rw [iI_le] at hc
    omega
  · rw [iI_le] at hc
    omega
theorem g_goto (C : Cx p s m args c cc nL own D cA ad A) {off : Int} {tg : Nat} (hd : decode cc pc = .ok (.goto off, 3)) (ht : (pc : Int) + off = (tg : Int)) (h : GW p l e R s m args below meth c Q nL D cA ad A (tg) (L) (st) (σ) (nc) (ns)) : GW p l e R s m args below meth c Q nL D cA ad A (pc) (L) (st) (σ) (nc) (ns) :=
  fun o1 o2 o3 H locs ls hP hS hl => lv_goto C.1 C.2.1 hd ht (h o1 o2 o3 H locs ls hP hS hl)
theorem swc_at {x : Int} {K : Nat → Prop} : ∀ (ts : List Nat) (z : Int) (j : Nat) (t : Nat), swc x K ts z → ts[j]? = some t → x = z + j → K t
  | [], _, _, _, _, h, _ => by simp at h
  | t0 :: r, z, 0, t, h, h1, h2 => by
    simp at h1
    rw [← h1]
    exact h.1 (by omega)
  | t0 :: r, z, j + 1, t, h, h1, h2 => by
    simp at h1
    exact swc_at r (z + 1) j t h.2 h1 (by omega)
theorem g_switch (C : Cx p s m args c cc nL own D cA ad A) {x lo : Int} {ts : List Nat} {df len : Nat} (hd : decode cc pc = .ok (.tableswitch ((df : Int) - pc) lo (lo + ts.length - 1) (ts.map (fun (t : Nat) => (t : Int) - pc)).toArray, len)) (h : swc (nrm x) (fun t => GW p l e R s m args below meth c Q nL D cA ad A (t) (L) (st) (σ) (nc) (ns)) ts lo ∧ (nrm x < lo ∨ lo + ts.length - 1 < nrm x → GW p l e R s m args below meth c Q nL D cA ad A (df) (L) (st) (σ) (nc) (ns))) : GW p l e R s m args below meth c Q nL D cA ad A (pc) (L) (.inl x :: st) (σ) (nc) (ns) := by
  intro o1 o2 o3 H locs ls hP hS hl
  by_cases hc : nrm x < lo ∨ lo + ts.length - 1 < nrm x
  · exact lv_tableOut (x := iI x) (tgt := df) C.1 C.2.1 hd (by rw [iI_toInt]; exact hc) (by omega) (h.2 hc o1 (okS_c o2).2 o3 H locs ls hP hS hl)
  · have h1 : ¬ nrm x < lo := fun z => hc (Or.inl z)
    have h2 : ¬ lo + ts.length - 1 < nrm x := fun z => hc (Or.inr z)
    have hj : (nrm x - lo).toNat < ts.length := by omega
    have ht : ts[(nrm x - lo).toNat]? = some ts[(nrm x - lo).toNat] := List.getElem?_eq_getElem hj
    generalize ts[(nrm x - lo).toNat] = t at ht
    have hk := swc_at ts lo _ t h.1 ht (by omega)
    exact lv_tableIn (x := iI x) (tgt := t) (off := (t : Int) - pc) C.1 C.2.1 hd (by rw [iI_toInt]; exact h1) (by rw [iI_toInt]; exact h2) (by rw [iI_toInt]; simp [ht]) (by omega) (hk o1 (okS_c o2).2 o3 H locs ls hP hS hl)
/-- a field that the class 'own' links by its number a: slot j of the class number ci; ty 0 int, 1 boolean, 2 a reference -/
def FldOK (own : String) (a : Nat) (v : Nat × Nat × Nat) : Prop := ∃ (C : String) (T : u_T) (N : Nat) (ty0 : Nat → FieldType), vwCl[v.1]? = some (C, T, N) ∧ (∀ w ∈ u_ws C T N, w ∈ GWS) ∧ v.2.1 < N ∧ Cond.fieldLink own a (T v.2.1).1 (T v.2.1).2.1 (T v.2.1).2.2.1 ∈ GWS ∧ (∀ k, k < N → parseFieldDescriptor (T k).2.2.1 = some (ty0 k)) ∧ (∀ a, a < N → ∀ b, b < N → a ≠ b → (T a).2.1 ≠ (T b).2.1) ∧ (v.2.2 = 0 → (T v.2.1).2.2.2 = false ∧ ty0 v.2.1 = .int) ∧ (v.2.2 = 1 → (T v.2.1).2.2.2 = false ∧ ty0 v.2.1 = .boolean)
theorem g_get (C : Cx p s m args c cc nL own D cA ad A) {a ci j ty k e' i : Nat} {sl : List (Option (Nat × Nat))} (hF : FldOK own a (ci, j, ty)) (hd : decode cc pc = .ok (.getfield a, 3)) (hs : SH k = .inl (ci, sl)) {v : AV} (hv : (slv ad (σ k e' i) e' i sl)[j]? = some (cv ad v)) (hok : okv (.inr (k, e', i)) → okv v) (h : GW p l e R s m args below meth c Q nL D cA ad A (pc + 3) (L) (v :: st) (σ) (nc) (ns)) : GW p l e R s m args below meth c Q nL D cA ad A (pc) (L) (.inr (k, e', i) :: st) (σ) (nc) (ns) := by
  intro o1 o2 o3 H locs ls hP hS hl
  obtain ⟨C0, T, N, ty0, f1, f2, f3, f4, f5, f6, f7, f8⟩ := hF
  obtain ⟨n, n1, n2⟩ := wl_ok (ad := ad) (cA := cA) (σ := σ) (okS_c o2).1 (isSt_o hs)
  rw [cel_o hs] at n2
  exact va_get (D := D) (ci := ci) (v := cv ad v) C.1 C.2.1 C.2.2.2.2.1 f2 C.2.2.2.1 C.2.2.2.2.2.1 hP n n2 f1 j f3 (C.2.2.2.2.1 _ f4) (fun _ h9 => h9) hv hd (h o1 (okS_p (hok (okS_c o2).1) (okS_c o2).2) o3 H locs ls hP hS hl)
theorem narrow_b {x : Int} (h : x = 0 ∨ x = 1) : narrow .boolean (.int (iI x)) = .int (iI x) := by
  rcases h with h | h <;> subst h <;> decide
theorem g_put (C : Cx p s m args c cc nL own D cA ad A) {a ci j ty k e' i : Nat} {sl : List (Option (Nat × Nat))} {x : Int} (hF : FldOK own a (ci, j, ty)) (hd : decode cc pc = .ok (.putfield a, 3)) (hs : SH k = .inl (ci, sl)) (hv : sl[j]? = some none) (hty : ty = 0 ∨ (ty = 1 ∧ (x = 0 ∨ x = 1))) (h : GW p l e R s m args below meth c Q nL D cA ad A (pc + 3) (L) (st) (upd4 σ k e' i j x) (nc) (ns)) : GW p l e R s m args below meth c Q nL D cA ad A (pc) (L) (.inl x :: .inr (k, e', i) :: st) (σ) (nc) (ns) := by
  intro o1 o2 o3 H locs ls hP hS hl
  obtain ⟨C0, T, N, ty0, f1, f2, f3, f4, f5, f6, f7, f8⟩ := hF
  have ok1 := (okS_c (okS_c o2).2).1
  have ok2 := (okS_c (okS_c o2).2).2
  obtain ⟨n, n1, n2⟩ := wl_ok (ad := ad) (cA := cA) (σ := σ) ok1 (isSt_o hs)
  rw [cel_o hs] at n2
  have key : (T j).2.2.2 = false ∧ narrow (ty0 j) (.int (iI x)) = .int (iI x) ∧ fits (ty0 j) (.int (iI x)) = true := by
    rcases hty with h0 | ⟨h0, hx⟩
    · obtain ⟨z1, z2⟩ := f7 h0
      refine ⟨z1, ?_, ?_⟩ <;> rw [z2] <;> rfl
    · obtain ⟨z1, z2⟩ := f8 h0
      refine ⟨z1, ?_, ?_⟩ <;> rw [z2]
      · exact narrow_b hx
      · rcases hx with h | h <;> subst h <;> decide
  refine va_put (D := D) (ci := ci) (v := .int (iI x)) C.1 C.2.1 C.2.2.2.2.1 f2 ty0 f5 f6 C.2.2.2.1 C.2.2.2.2.2.1 hP (C.2.2.2.2.2.2.1 σ) hS n n2 f1 j f3 (C.2.2.2.2.1 _ f4) (fun _ h9 => h9) key.1 (f5 j f3) key.2.1 key.2.2 (by rw [slv_len]; exact (List.getElem?_eq_some_iff.mp hv).1) hd (fun H1 locs1 hP1 hD1 hS1 => ?_)
  have he : (wl ad cA σ).set n (ad (k, e', i), .inr (ci, (slv ad (σ k e' i) e' i sl).set j (.int (iI x)))) = wl ad cA (upd4 σ k e' i j x) := by
    refine wl_set n1 (fun k2 e2 i2 hne => upd4_o σ k e' i j x k2 e2 i2 hne) ?_
    rw [cel_o hs]
    show _ = Sum.inr (ci, slv ad (upd4 σ k e' i j x k e' i) e' i sl)
    rw [slv_set hv (upd4_at σ k e' i j x) (fun y hy => upd4_j σ k e' i j x y hy)]
  rw [he] at hP1
  exact h o1 ok2 o3 H1 locs1 ls hP1 hS1 hl
theorem g_iald (C : Cx p s m args c cc nL own D cA ad A) {k e' i n : Nat} {r : Nat × Nat} {x : Int} (hd : decode cc pc = .ok (.iaload, 1)) (hs : SH k = .inr (0, n, r)) (hx : 0 ≤ nrm x ∧ nrm x < n) (h : GW p l e R s m args below meth c Q nL D cA ad A (pc + 1) (L) (.inl (σ k e' i (nrm x).toNat) :: st) (σ) (nc) (ns)) : GW p l e R s m args below meth c Q nL D cA ad A (pc) (L) (.inl x :: .inr (k, e', i) :: st) (σ) (nc) (ns) := by
  intro o1 o2 o3 H locs ls hP hS hl
  have ok1 := (okS_c (okS_c o2).2).1
  have ok2 := (okS_c (okS_c o2).2).2
  obtain ⟨q, n1, n2⟩ := wl_ok (ad := ad) (cA := cA) (σ := σ) ok1 (isSt_i hs)
  rw [cel_i hs] at n2
  refine va_iald (i := iI x) C.1 C.2.1 C.2.2.2.2.2.1 hP q 0 n2 rfl (iI_in hx.1 hx.2) hd ?_
  rw [iI_cl]
  exact h o1 (okS_i ok2) o3 H locs ls hP hS hl
theorem g_iast (C : Cx p s m args c cc nL own D cA ad A) {k e' i n : Nat} {r : Nat × Nat} {x v : Int} (hd : decode cc pc = .ok (.iastore, 1)) (hs : SH k = .inr (0, n, r)) (hx : 0 ≤ nrm x ∧ nrm x < n) (h : GW p l e R s m args below meth c Q nL D cA ad A (pc + 1) (L) (st) (upd4 σ k e' i (nrm x).toNat v) (nc) (ns)) : GW p l e R s m args below meth c Q nL D cA ad A (pc) (L) (.inl v :: .inl x :: .inr (k, e', i) :: st) (σ) (nc) (ns) := by
  intro o1 o2 o3 H locs ls hP hS hl
  have ok1 := (okS_c (okS_i2 o2)).1
  have ok2 := (okS_c (okS_i2 o2)).2
  obtain ⟨q, n1, n2⟩ := wl_ok (ad := ad) (cA := cA) (σ := σ) ok1 (isSt_i hs)
  rw [cel_i hs] at n2
  refine va_iast (i := iI x) (x := iI v) C.1 C.2.1 C.2.2.2.2.2.1 hP (C.2.2.2.2.2.2.1 σ) hS q 0 n2 rfl (iI_in hx.1 hx.2) hd (fun H1 locs1 hP1 hD1 hS1 => ?_)
  have he : (wl ad cA σ).set q (ad (k, e', i), .inl (cA 0, n, .inl (upd (fun j => iI (σ k e' i j)) (iI x).toNatClampNeg (iI v)))) = wl ad cA (upd4 σ k e' i (nrm x).toNat v) := by
    refine wl_set n1 (fun k2 e2 i2 hne => upd4_o σ k e' i _ v k2 e2 i2 hne) ?_
    rw [cel_i hs]
    show _ = Sum.inl (cA 0, n, Sum.inl (fun j => iI (upd4 σ k e' i (nrm x).toNat v k e' i j)))
    congr 4
    funext j
    rw [iI_cl]
    by_cases hj : j = (nrm x).toNat
    · rw [hj, upd4_at]; simp [upd]
    · rw [upd4_j _ _ _ _ _ _ _ hj]; simp [upd, hj]
  rw [he] at hP1
  exact h o1 ok2 o3 H1 locs1 ls hP1 hS1 hl
theorem g_aald (C : Cx p s m args c cc nL own D cA ad A) {k e' i n t : Nat} {r : Nat × Nat} {x : Int} (hd : decode cc pc = .ok (.aaload, 1)) (hs : SH k = .inr (t + 2, n, r)) (ht9 : t ≤ 6) (hx : 0 ≤ nrm x ∧ nrm x < n) (h : GW p l e R s m args below meth c Q nL D cA ad A (pc + 1) (L) (.inr (tgt r e' i (nrm x).toNat) :: st) (σ) (nc) (ns)) : GW p l e R s m args below meth c Q nL D cA ad A (pc) (L) (.inl x :: .inr (k, e', i) :: st) (σ) (nc) (ns) := by
  intro o1 o2 o3 H locs ls hP hS hl
  have ok1 := (okS_c (okS_c o2).2).1
  have ok2 := (okS_c (okS_c o2).2).2
  obtain ⟨q, n1, n2⟩ := wl_ok (ad := ad) (cA := cA) (σ := σ) ok1 (isSt_r hs ht9)
  rw [cel_r hs] at n2
  obtain ⟨t0, C9, ht⟩ := TY_r cA hs ht9
  refine va_aldq (i := iI x) C.1 C.2.1 C.2.2.2.2.2.1 hP q t0 n2 ht (iI_in hx.1 hx.2) hd ?_
  rw [iI_cl]
  exact h o1 (okS_p (SH_r hs ht9 ok1 (by omega)) ok2) o3 H locs ls hP hS hl
theorem g_alen (C : Cx p s m args c cc nL own D cA ad A) {k e' i t n : Nat} {r : Nat × Nat} (hd : decode cc pc = .ok (.arraylength, 1)) (hs : SH k = .inr (t, n, r)) (h : GW p l e R s m args below meth c Q nL D cA ad A (pc + 1) (L) (.inl n :: st) (σ) (nc) (ns)) : GW p l e R s m args below meth c Q nL D cA ad A (pc) (L) (.inr (k, e', i) :: st) (σ) (nc) (ns) := by
  intro o1 o2 o3 H locs ls hP hS hl
  have ok1 := (okS_c o2).1
  have ok2 := (okS_c o2).2
  have hn : Int32.ofNat n = iI n := by
    unfold iI
    exact Int32.ofInt_eq_ofNat.symm
  rcases hq : isSt k with _ | _
  · obtain ⟨q, n1, n2⟩ := wl_ok (ad := ad) (cA := cA) (σ := σ) ok1 hq
    obtain ⟨t0, cA9, ty9, x9, z1, z2, z3⟩ := cel_a ad cA (e := e') (i := i) hs hq (σ k e' i)
    rw [z1] at n2
    exact va_alen (v := iI n) C.1 C.2.1 C.2.2.2.2.2.1 hP q t0 n2 z2 (by rw [z3]; exact hn) hd (h o1 (okS_i ok2) o3 H locs ls hP hS hl)
  · obtain ⟨e0, i0, hT⟩ := STt_t C.2.2.2.2.2.2.2.2 hs hq ok1
    subst e0; subst i0
    exact va_tlen (v := iI n) C.1 C.2.1 hT hS hn hd (h o1 (okS_i ok2) o3 H locs ls hP hS hl)
theorem g_sald (C : Cx p s m args c cc nL own D cA ad A) {k e' i n : Nat} {r : Nat × Nat} {x : Int} (hd : decode cc pc = .ok (.iaload, 1)) (hs : SH k = .inr (9, n, r)) (hx : 0 ≤ nrm x ∧ nrm x < n) (h : GW p l e R s m args below meth c Q nL D cA ad A (pc + 1) (L) (.inl (sv k (nrm x).toNat) :: st) (σ) (nc) (ns)) : GW p l e R s m args below meth c Q nL D cA ad A (pc) (L) (.inl x :: .inr (k, e', i) :: st) (σ) (nc) (ns) := by
  intro o1 o2 o3 H locs ls hP hS hl
  have ok1 := (okS_c (okS_c o2).2).1
  have ok2 := (okS_c (okS_c o2).2).2
  obtain ⟨e0, i0, hT⟩ := STt_t C.2.2.2.2.2.2.2.2 hs (isSt_s hs) ok1
  subst e0; subst i0
  exact va_ti (i := iI x) (v := .int (iI (sv k (nrm x).toNat))) C.1 C.2.1 hT hS (iI_in hx.1 hx.2) (by rw [iI_cl]) hd (h o1 (okS_i ok2) o3 H locs ls hP hS hl)
theorem g_mmin (C : Cx p s m args c cc nL own D cA ad A) {a : Nat} {x y : Int} (hw : Cond.methodLink own a Lib.Math.min.name ∈ GWS) (hr : 1 ≤ R.frames ∧ 26 ≤ R.locals ∧ nc ≤ R.cells ∧ ns ≤ R.slots) (hst : st.length ≤ 8) (hd : decode cc pc = .ok (.invokestatic a, 3)) (h : GW p l e R s m args below meth c Q nL D cA ad A (pc + 3) (L) (.inl (if nrm y < nrm x then y else x) :: st) (σ) (nc) (ns)) : GW p l e R s m args below meth c Q nL D cA ad A (pc) (L) (.inl y :: .inl x :: st) (σ) (nc) (ns) := by
  intro o1 o2 o3 H locs ls hP hS hl
  refine va_mmin (x := iI x) (y := iI y) C.1 C.2.1 (by rw [C.2.2.1, hl.1]) C.2.2.2.1 (C.2.2.2.2.1 _ hw) (C.2.2.2.2.1 _ wMath.2.1.1) (C.2.2.2.2.1 _ wMath.1) (C.2.2.2.2.1 _ wMath.2.2.1) hr.1 (by rw [cv_sum]; omega) hr.2.2.1 hr.2.2.2 hd ?_
  have he : (if iI y < iI x then iI y else iI x) = iI (if nrm y < nrm x then y else x) := by
    by_cases hc : nrm y < nrm x
    · rw [if_pos (iI_lt.mpr hc), if_pos hc]
    · rw [if_neg (fun z => hc (iI_lt.mp z)), if_neg hc]
  rw [he]
  exact h o1 (okS_i (okS_i2 o2)) o3 H locs ls hP hS hl
theorem g_mmax (C : Cx p s m args c cc nL own D cA ad A) {a : Nat} {x y : Int} (hw : Cond.methodLink own a Lib.Math.max.name ∈ GWS) (hr : 1 ≤ R.frames ∧ 26 ≤ R.locals ∧ nc ≤ R.cells ∧ ns ≤ R.slots) (hst : st.length ≤ 8) (hd : decode cc pc = .ok (.invokestatic a, 3)) (h : GW p l e R s m args below meth c Q nL D cA ad A (pc + 3) (L) (.inl (if nrm x < nrm y then y else x) :: st) (σ) (nc) (ns)) : GW p l e R s m args below meth c Q nL D cA ad A (pc) (L) (.inl y :: .inl x :: st) (σ) (nc) (ns) := by
  intro o1 o2 o3 H locs ls hP hS hl
  refine va_mmax (x := iI x) (y := iI y) C.1 C.2.1 (by rw [C.2.2.1, hl.1]) C.2.2.2.1 (C.2.2.2.2.1 _ hw) (C.2.2.2.2.1 _ wMath.2.1.2) (C.2.2.2.2.1 _ wMath.1) (C.2.2.2.2.1 _ wMath.2.2.2) hr.1 (by rw [cv_sum]; omega) hr.2.2.1 hr.2.2.2 hd ?_
  have he : (if iI x < iI y then iI y else iI x) = iI (if nrm x < nrm y then y else x) := by
    by_cases hc : nrm x < nrm y
    · rw [if_pos (iI_lt.mpr hc), if_pos hc]
    · rw [if_neg (fun z => hc (iI_lt.mp z)), if_neg hc]
  rw [he]
  exact h o1 (okS_i (okS_i2 o2)) o3 H locs ls hP hS hl
theorem g_copy (C : Cx p s m args c cc nL own D cA ad A) {a : Nat} {ks es is n0 kd ed id n1 : Nat} {r0 r1 : Nat × Nat} {sp dp n : Int} (hw : Cond.methodLink own a arraycopyName ∈ GWS) (hr : 1 ≤ R.frames ∧ 26 ≤ R.locals) (hst : st.length ≤ 8) (hs0 : SH ks = .inr (0, n0, r0)) (hs1 : SH kd = .inr (0, n1, r1)) (hh : 0 ≤ nrm sp ∧ 0 ≤ nrm dp ∧ 0 ≤ nrm n ∧ nrm sp + nrm n ≤ n0 ∧ nrm dp + nrm n ≤ n1) (hd : decode cc pc = .ok (.invokestatic a, 3)) (h : GW p l e R s m args below meth c Q nL D cA ad A (pc + 3) (L) (st) (cpy4 σ ks es is (nrm sp).toNat kd ed id (nrm dp).toNat (nrm n).toNat) (nc) (ns)) : GW p l e R s m args below meth c Q nL D cA ad A (pc) (L) (.inl n :: .inl dp :: .inr (kd, ed, id) :: .inl sp :: .inr (ks, es, is) :: st) (σ) (nc) (ns) := by
  intro o1 o2 o3 H locs ls hP hS hl
  have okd := (okS_c (okS_i2 o2)).1
  have oks := (okS_c (okS_c (okS_c (okS_i2 o2)).2).2).1
  have ok2 := (okS_c (okS_c (okS_c (okS_i2 o2)).2).2).2
  obtain ⟨q0, n01, n02⟩ := wl_ok (ad := ad) (cA := cA) (σ := σ) oks (isSt_i hs0)
  obtain ⟨q1, n11, n12⟩ := wl_ok (ad := ad) (cA := cA) (σ := σ) okd (isSt_i hs1)
  rw [cel_i hs0] at n02
  rw [cel_i hs1] at n12
  have hnw : nativeFrameWords "java/lang/System" "arraycopy" 5 = 7 := by decide
  have ng : ∀ z : Int, 0 ≤ nrm z → ¬ iI z < 0 := fun z hz hc => by
    rw [iI_0, iI_lt, nrm_0] at hc
    omega
  refine va_copyi (sp := iI sp) (dp := iI dp) (n := iI n) (ty := .int) C.1 C.2.1 (by rw [C.2.2.1, hl.1]) C.2.2.2.1 (C.2.2.2.2.1 _ hw) (C.2.2.2.2.1 _ wCopy.1) (C.2.2.2.2.1 _ wCopy.2.1) (C.2.2.2.2.1 _ wCopy.2.2) C.2.2.2.2.2.1 hP (C.2.2.2.2.2.2.1 σ) hS q0 q1 0 0 n02 n12 rfl rfl rfl (ng _ hh.1) (ng _ hh.2.1) (ng _ hh.2.2.1) (by rw [iI_cl, iI_cl]; omega) (by rw [iI_cl, iI_cl]; omega) (fun _ _ => rfl) hr.1 (by rw [cv_sum, hnw]; omega) hd (fun H1 locs1 hP1 hD1 hS1 => ?_)
  have he : (wl ad cA σ).set q1 (ad (kd, ed, id), .inl (cA 0, n1, .inl (va_cpy (fun j => iI (σ ks es is j)) (fun j => iI (σ kd ed id j)) (iI sp).toNatClampNeg (iI dp).toNatClampNeg (iI n).toNatClampNeg))) = wl ad cA (cpy4 σ ks es is (nrm sp).toNat kd ed id (nrm dp).toNat (nrm n).toNat) := by
    refine wl_set n11 (fun k2 e2 i2 hne => cpy4_o σ _ _ _ _ _ _ _ _ _ k2 e2 i2 hne) ?_
    rw [cel_i hs1]
    show _ = Sum.inl (cA 0, n1, Sum.inl (fun j => iI (cpy4 σ ks es is (nrm sp).toNat kd ed id (nrm dp).toNat (nrm n).toNat kd ed id j)))
    congr 4
    funext j
    rw [iI_cl, iI_cl, iI_cl]
    by_cases hj : (nrm dp).toNat ≤ j ∧ j < (nrm dp).toNat + (nrm n).toNat
    · unfold va_cpy cpy4
      rw [if_pos hj, if_pos ⟨⟨rfl, rfl, rfl⟩, hj⟩]
    · unfold va_cpy cpy4
      rw [if_neg hj, if_neg (fun z => hj z.2)]
  rw [he] at hP1
  exact h o1 ok2 o3 H1 locs1 ls hP1 hS1 hl
end GR
end
section

theorem lgetK_m {K K' : AV → Prop} (h : ∀ v, K v → K' v) : ∀ (L : List (Option AV)) (k : Nat), lgetK K L k → lgetK K' L k
  | [], _, z => z
  | none :: _, 0, z => z
  | some v :: _, 0, z => h v z
  | none :: r, k + 1, z => lgetK_m h r k z
  | some _ :: r, k + 1, z => lgetK_m h r k z
theorem lsetK_m {K K' : List (Option AV) → Prop} (h : ∀ v, K v → K' v) : ∀ (L : List (Option AV)) (k : Nat) (v : AV), lsetK L k v K → lsetK L k v K'
  | [], _, _, z => z
  | _ :: _, 0, _, z => h _ z
  | o :: r, k + 1, v, z => lsetK_m (K := fun r' => K (o :: r')) (K' := fun r' => K' (o :: r')) (fun _ => h _) r k v z
theorem swc_m {x : Int} {K K' : Nat → Prop} (h : ∀ v, K v → K' v) : ∀ (ts : List Nat) (z : Int), swc x K ts z → swc x K' ts z
  | [], _, _ => trivial
  | _ :: r, z, q => ⟨fun e => h _ (q.1 e), swc_m h r (z + 1) q.2⟩

/-- a static, or a method of the JDK, that the class 'own' links by its number a -/
def StaOK (own : String) (a : Nat) (k : Nat) : Prop := (k = 301 → Cond.methodLink own a Lib.Math.min.name ∈ GWS) ∧ (k = 302 → Cond.methodLink own a Lib.Math.max.name ∈ GWS) ∧ (k = 303 → Cond.methodLink own a arraycopyName ∈ GWS) ∧ (k < 300 → ∃ C n, (k, C, n) ∈ STL ∧ (Cond.fieldLink own a C n "[I" ∈ GWS ∨ ∃ host, Cond.fieldLinkNest own a C n "[I" host ∈ NWS))
/-- a call of a method of an object -/
def CalV (p : Program) (l : Launch) (e : Env) (R : Room) (s : State) (m : MethodId) (args : Array Value) (below : List Frame) (meth : Method) (c : Code) (Q : State → Prop) (nL : Nat) (D : va_G) (cA : Nat → ClassId) (ad : Pl → Nat) (A : Nat → Prop) (cc : ByteArray) (Ψ : String → Sg → Prop) (a n ci : Nat) (Sp : CSp) (mc ms : Nat) : Prop :=
  ∀ (pc : Nat) (L : List (Option AV)) (st avr : List AV) (k0 e0 i0 : Nat) (sl : List (Option (Nat × Nat))) (σ : Sg) (nc ns : Nat) (K : Option AV → Sg → Prop), decode cc pc = .ok (.invokevirtual a, 3) → SH k0 = .inl (ci, sl) → avr.length + 1 = n → st.length ≤ 8 → nc + mc ≤ R.cells → ns + ms ≤ R.slots → Sp (.inr (k0, e0, i0) :: avr) σ K Ψ → (∀ r σ', K r σ' → GW p l e R s m args below meth c Q nL D cA ad A (pc + 3) (L) (pso r st) (σ') (nc + mc) (ns + ms)) → GW p l e R s m args below meth c Q nL D cA ad A (pc) (L) ((Sum.inr (k0, e0, i0) :: avr).reverse ++ st) (σ) (nc) (ns)
/-- a call of a static method -/
def CalS (p : Program) (l : Launch) (e : Env) (R : Room) (s : State) (m : MethodId) (args : Array Value) (below : List Frame) (meth : Method) (c : Code) (Q : State → Prop) (nL : Nat) (D : va_G) (cA : Nat → ClassId) (ad : Pl → Nat) (A : Nat → Prop) (cc : ByteArray) (Ψ : String → Sg → Prop) (a n : Nat) (Sp : CSp) (mc ms : Nat) : Prop :=
  ∀ (pc : Nat) (L : List (Option AV)) (st av : List AV) (σ : Sg) (nc ns : Nat) (K : Option AV → Sg → Prop), decode cc pc = .ok (.invokestatic a, 3) → av.length = n → st.length ≤ 8 → nc + mc ≤ R.cells → ns + ms ≤ R.slots → Sp av σ K Ψ → (∀ r σ', K r σ' → GW p l e R s m args below meth c Q nL D cA ad A (pc + 3) (L) (pso r st) (σ') (nc + mc) (ns + ms)) → GW p l e R s m args below meth c Q nL D cA ad A (pc) (L) (av.reverse ++ st) (σ) (nc) (ns)
def CalOK (p : Program) (l : Launch) (e : Env) (R : Room) (s : State) (m : MethodId) (args : Array Value) (below : List Frame) (meth : Method) (c : Code) (Q : State → Prop) (nL : Nat) (D : va_G) (cA : Nat → ClassId) (ad : Pl → Nat) (A : Nat → Prop) (cc : ByteArray) (Ψ : String → Sg → Prop) (a : Nat) (v : Nat × Nat × CSp × Nat × Nat) : Prop :=
  (v.2.1 = 1000 ∧ CalS p l e R s m args below meth c Q nL D cA ad A cc Ψ a v.1 v.2.2.1 v.2.2.2.1 v.2.2.2.2) ∨ (v.2.1 ≠ 1000 ∧ CalV p l e R s m args below meth c Q nL D cA ad A cc Ψ a v.1 v.2.1 v.2.2.1 v.2.2.2.1 v.2.2.2.2)
/-- the ends of a method -/
def RetI (p : Program) (l : Launch) (e : Env) (R : Room) (s : State) (m : MethodId) (args : Array Value) (below : List Frame) (meth : Method) (c : Code) (Q : State → Prop) (nL : Nat) (D : va_G) (cA : Nat → ClassId) (ad : Pl → Nat) (A : Nat → Prop) (cc : ByteArray) (Φ : Option AV → Sg → Prop) (rt mc ms : Nat) : Prop := ∀ (pc : Nat) (L : List (Option AV)) (x : Int) (σ : Sg) (nc ns : Nat), decode cc pc = .ok (.ireturn, 1) → (rt = 0 ∨ (rt = 1 ∧ (x = 0 ∨ x = 1))) → nc ≤ mc → ns ≤ ms → Φ (some (.inl x)) σ → GW p l e R s m args below meth c Q nL D cA ad A (pc) (L) ([.inl x]) (σ) (nc) (ns)
def RetV (p : Program) (l : Launch) (e : Env) (R : Room) (s : State) (m : MethodId) (args : Array Value) (below : List Frame) (meth : Method) (c : Code) (Q : State → Prop) (nL : Nat) (D : va_G) (cA : Nat → ClassId) (ad : Pl → Nat) (A : Nat → Prop) (cc : ByteArray) (Φ : Option AV → Sg → Prop) (rt mc ms : Nat) : Prop := ∀ (pc : Nat) (L : List (Option AV)) (σ : Sg) (nc ns : Nat), decode cc pc = .ok (.return_, 1) → rt = 2 → nc ≤ mc → ns ≤ ms → Φ none σ → GW p l e R s m args below meth c Q nL D cA ad A (pc) (L) ([]) (σ) (nc) (ns)
def RetA (p : Program) (l : Launch) (e : Env) (R : Room) (s : State) (m : MethodId) (args : Array Value) (below : List Frame) (meth : Method) (c : Code) (Q : State → Prop) (nL : Nat) (D : va_G) (cA : Nat → ClassId) (ad : Pl → Nat) (A : Nat → Prop) (cc : ByteArray) (Φ : Option AV → Sg → Prop) (rt mc ms : Nat) : Prop := ∀ (pc : Nat) (L : List (Option AV)) (x : Pl) (σ : Sg) (nc ns : Nat), decode cc pc = .ok (.areturn, 1) → rt = 3 → nc ≤ mc → ns ≤ ms → Φ (some (.inr x)) σ → GW p l e R s m args below meth c Q nL D cA ad A (pc) (L) ([.inr x]) (σ) (nc) (ns)
/-- a throw goes as it should -/
def ThrG (p : Program) (l : Launch) (e : Env) (R : Room) (s : State) (m : MethodId) (args : Array Value) (below : List Frame) (meth : Method) (c : Code) (Q : State → Prop) (nL : Nat) (D : va_G) (cA : Nat → ClassId) (ad : Pl → Nat) (A : Nat → Prop) (Ψ : String → Sg → Prop) (mc ms : Nat) (q : Ent) : Prop := ∀ (L : List (Option AV)) (st : List AV) (σ : Sg) (nc ns : Nat), st.length ≤ 8 → nc + 1 ≤ mc → ns + 6 ≤ ms → Ψ (exn q.2.2.2.2) σ → GW p l e R s m args below meth c Q nL D cA ad A (q.1) (L) (st) (σ) (nc) (ns)
def okE (q : Ent) : Bool := decide (q.2.1 < 56) && (decide (q.2.1 = 1 → (Int8.ofInt q.2.2.2.1).toInt32 = iI q.2.2.2.1) && (decide (q.2.1 = 2 → (Int16.ofInt q.2.2.2.1).toInt32 = iI q.2.2.2.1) && decide (q.2.1 = 3 ∨ q.2.1 = 5 ∨ q.2.1 = 7 ∨ q.2.1 = 9 → q.2.2.1 < 4)))
theorem okE_sp {q : Ent} (h : okE q = true) : q.2.1 < 56 ∧ (q.2.1 = 1 → (Int8.ofInt q.2.2.2.1).toInt32 = iI q.2.2.2.1) ∧ (q.2.1 = 2 → (Int16.ofInt q.2.2.2.1).toInt32 = iI q.2.2.2.1) ∧ (q.2.1 = 3 ∨ q.2.1 = 5 ∨ q.2.1 = 7 ∨ q.2.1 = 9 → q.2.2.1 < 4) := by
  simp only [okE, Bool.and_eq_true, decide_eq_true_eq] at h
  exact h
theorem takeK_sp {K : List AV → List AV → Prop} : ∀ (n : Nat) (st acc : List AV), takeK K n st acc → ∃ av st', st = av.reverse ++ st' ∧ av.length = n ∧ K (av ++ acc) st'
  | 0, st, acc, h => ⟨[], st, rfl, rfl, h⟩
  | n + 1, [], acc, h => (h : False).elim
  | n + 1, v :: st, acc, h => by
    obtain ⟨av, st', h1, h2, h3⟩ := takeK_sp n st (v :: acc) h
    refine ⟨av ++ [v], st', by rw [h1]; simp, by simp [h2], by simpa using h3⟩
theorem lnthK_sp {α : Type} {K : α → Prop} : ∀ (l : List α) (n : Nat), lnthK K l n → ∃ x, l[n]? = some x ∧ K x
  | [], _, h => (h : False).elim
  | x :: _, 0, h => ⟨x, rfl, h⟩
  | _ :: r, n + 1, h => by
    obtain ⟨x, h1, h2⟩ := lnthK_sp r n h
    exact ⟨x, by simpa using h1, h2⟩
theorem b2p_sp {b : Bool} {P : Prop} (h : b2p b P) : b = true ∧ P := by
  cases b
  · exact (h : False).elim
  · exact ⟨rfl, h⟩
theorem lkK_sp {K : Ent → Prop} : ∀ (l : List Ent) (pc : Nat), lkK K l pc → ∃ q ∈ l, q.1 = pc ∧ K q
  | [], _, h => (h : False).elim
  | q :: r, pc, h => by
    unfold lkK at h
    rcases hb : Nat.beq q.1 pc with _ | _
    · rw [hb] at h
      obtain ⟨x, h1, h2⟩ := lkK_sp r pc h
      exact ⟨x, List.mem_cons_of_mem _ h1, h2⟩
    · rw [hb] at h
      exact ⟨q, List.mem_cons_self, Nat.eq_of_beq_eq_true hb, h⟩
section SND
variable {p : Program} {l : Launch} {e : Env} {R : Room} {s : State} {m : MethodId} {args : Array Value} {below : List Frame} {meth : Method} {c : Code} {Q : State → Prop}
variable {cc : ByteArray} {nL : Nat} {own : String} {D : va_G} {cA : Nat → ClassId} {ad : Pl → Nat} {A : Nat → Prop}
variable {tb : Tb} {Φ : Option AV → Sg → Prop} {Ψ : String → Sg → Prop} {K : KK}
theorem g_gets (C : Cx p s m args c cc nL own D cA ad A) {pc : Nat} {L : List (Option AV)} {st : List AV} {σ : Sg} {nc ns : Nat} {a k : Nat} (hk : k < 300) (hG : StaOK own a k) (hd : decode cc pc = .ok (.getstatic a, 3)) (h : GW p l e R s m args below meth c Q nL D cA ad A (pc + 3) (L) (.inr (k, 0, 0) :: st) (σ) (nc) (ns)) : GW p l e R s m args below meth c Q nL D cA ad A (pc) (L) (st) (σ) (nc) (ns) := by
  intro o1 o2 o3 H locs ls hP hS hl
  obtain ⟨C9, n9, h1, h2⟩ := hG.2.2.2 hk
  have hST := C.2.2.2.2.2.2.2.2
  have hz := (hST.1 _ h1).1
  have hk2 := h o1 (okS_p (STL_ok _ h1) o2) o3 H locs ls hP hS hl
  rcases h2 with h2 | ⟨host, h2⟩
  · exact va_gets C.1 C.2.1 hz hS C.2.2.2.1 (C.2.2.2.2.1 _ h2) (fun _ h9 => h9) hd hk2
  · exact va_getsN C.1 C.2.1 hz hS C.2.2.2.1 (va_Nw.use (NWS_on _ h2) (hST.2.1 _ h2)) (fun _ h9 => h9) hd hk2
set_option maxHeartbeats 4000000 in
theorem stp_sound (C : Cx p s m args c cc nL own D cA ad A) (hF : ∀ a v, tb.1 a = some v → FldOK own a v) (hG : ∀ a k, tb.2.1 a = some k → StaOK own a k) (hC : ∀ a v, tb.2.2.1 a = some v → CalOK p l e R s m args below meth c Q nL D cA ad A cc Ψ a v)
    (hR : (∀ a k, tb.2.1 a = some k → 300 ≤ k → 1 ≤ R.frames ∧ 26 ≤ R.locals) ∧ tb.2.2.2.2.2.1 ≤ R.cells ∧ tb.2.2.2.2.2.2 ≤ R.slots) (rI : RetI p l e R s m args below meth c Q nL D cA ad A cc Φ tb.2.2.2.2.1 tb.2.2.2.2.2.1 tb.2.2.2.2.2.2) (rV : RetV p l e R s m args below meth c Q nL D cA ad A cc Φ tb.2.2.2.2.1 tb.2.2.2.2.2.1 tb.2.2.2.2.2.2) (rA : RetA p l e R s m args below meth c Q nL D cA ad A cc Φ tb.2.2.2.2.1 tb.2.2.2.2.2.1 tb.2.2.2.2.2.2)
    (hK : ∀ pc L st σ nc ns, K pc L st σ nc ns → GW p l e R s m args below meth c Q nL D cA ad A (pc) (L) (st) (σ) (nc) (ns)) (q : Ent) (hT : q.2.1 = 55 → ThrG p l e R s m args below meth c Q nL D cA ad A Ψ tb.2.2.2.2.2.1 tb.2.2.2.2.2.2 q) (hq : decode cc q.1 = .ok (dec tb.2.2.2.1 q)) (ho : okE q = true) {L : List (Option AV)} {st : List AV} {σ : Sg} {nc ns : Nat} (h : stp tb Φ Ψ K q L st σ nc ns) : GW p l e R s m args below meth c Q nL D cA ad A (q.1) (L) (st) (σ) (nc) (ns) := by
  obtain ⟨pc, op, a, b, tg⟩ := q
  have hlt : op < 56 := (okE_sp ho).1
  have hcase : op = 0 ∨ op = 1 ∨ op = 2 ∨ op = 3 ∨ op = 4 ∨ op = 5 ∨ op = 6 ∨ op = 7 ∨ op = 8 ∨ op = 9 ∨ op = 10 ∨ op = 11 ∨ op = 12 ∨ op = 13 ∨ op = 14 ∨ op = 15 ∨ op = 16 ∨ op = 17 ∨ op = 18 ∨ op = 19 ∨ op = 20 ∨ op = 21 ∨ op = 22 ∨ op = 23 ∨ op = 24 ∨ op = 25 ∨ op = 26 ∨ op = 27 ∨ op = 28 ∨ op = 29 ∨ op = 30 ∨ op = 31 ∨ op = 32 ∨ op = 33 ∨ op = 34 ∨ op = 35 ∨ op = 36 ∨ op = 37 ∨ op = 38 ∨ op = 39 ∨ op = 40 ∨ op = 41 ∨ op = 42 ∨ op = 43 ∨ op = 44 ∨ op = 45 ∨ op = 46 ∨ op = 47 ∨ op = 48 ∨ op = 49 ∨ op = 50 ∨ op = 51 ∨ op = 52 ∨ op = 53 ∨ op = 54 ∨ op = 55 := by omega
  clear hlt
  rcases hcase with rfl | rfl | rfl | rfl | rfl | rfl | rfl | rfl | rfl | rfl | rfl | rfl | rfl | rfl | rfl | rfl | rfl | rfl | rfl | rfl | rfl | rfl | rfl | rfl | rfl | rfl | rfl | rfl | rfl | rfl | rfl | rfl | rfl | rfl | rfl | rfl | rfl | rfl | rfl | rfl | rfl | rfl | rfl | rfl | rfl | rfl | rfl | rfl | rfl | rfl | rfl | rfl | rfl | rfl | rfl | rfl
  · -- 0
    exact g_iconst C hq (hK _ _ _ _ _ _ h)
  · -- 1
    exact g_bipush C hq ((okE_sp ho).2.1 rfl) (hK _ _ _ _ _ _ h)
  · -- 2
    exact g_sipush C hq ((okE_sp ho).2.2.1 rfl) (hK _ _ _ _ _ _ h)
  · -- 3
    refine g_iload_n C ((okE_sp ho).2.2.2 (by simp)) hq ?_
    refine lgetK_m (fun v hv => ?_) L a h
    rcases v with x | x
    · exact hK _ _ _ _ _ _ hv
    · exact (hv : False).elim
  · -- 4
    refine g_iload C hq ?_
    refine lgetK_m (fun v hv => ?_) L a h
    rcases v with x | x
    · exact hK _ _ _ _ _ _ hv
    · exact (hv : False).elim
  · -- 5
    refine g_aload_n C ((okE_sp ho).2.2.2 (by simp)) hq ?_
    refine lgetK_m (fun v hv => ?_) L a h
    rcases v with x | x
    · exact (hv : False).elim
    · exact hK _ _ _ _ _ _ hv
  · -- 6
    refine g_aload C hq ?_
    refine lgetK_m (fun v hv => ?_) L a h
    rcases v with x | x
    · exact (hv : False).elim
    · exact hK _ _ _ _ _ _ hv
  · -- 7
    rcases st with _ | ⟨x | x, st⟩
    · exact (h : False).elim
    · exact g_istore_n C ((okE_sp ho).2.2.2 (by simp)) hq (lsetK_m (fun L hv => hK _ _ _ _ _ _ hv) L a _ h)
    · exact (h : False).elim
  · -- 8
    rcases st with _ | ⟨x | x, st⟩
    · exact (h : False).elim
    · exact g_istore C hq (lsetK_m (fun L hv => hK _ _ _ _ _ _ hv) L a _ h)
    · exact (h : False).elim
  · -- 9
    rcases st with _ | ⟨x | x, st⟩
    · exact (h : False).elim
    · exact (h : False).elim
    · exact g_astore_n C ((okE_sp ho).2.2.2 (by simp)) hq (lsetK_m (fun L hv => hK _ _ _ _ _ _ hv) L a _ h)
  · -- 10
    rcases st with _ | ⟨x | x, st⟩
    · exact (h : False).elim
    · exact (h : False).elim
    · exact g_astore C hq (lsetK_m (fun L hv => hK _ _ _ _ _ _ hv) L a _ h)
  · -- 11
    refine g_iinc C hq ?_
    refine lgetK_m (fun v hv => ?_) L a h
    rcases v with x | x
    · exact lsetK_m (fun L hv => hK _ _ _ _ _ _ hv) L a _ hv
    · exact (hv : False).elim
  · -- 12
    rcases st with _ | ⟨y | y, _ | ⟨x | x, st⟩⟩
    all_goals first | exact (h : False).elim | exact g_iadd C hq (hK _ _ _ _ _ _ h)
  · -- 13
    rcases st with _ | ⟨y | y, _ | ⟨x | x, st⟩⟩
    all_goals first | exact (h : False).elim | exact g_isub C hq (hK _ _ _ _ _ _ h)
  · -- 14
    rcases st with _ | ⟨y | y, _ | ⟨x | x, st⟩⟩
    all_goals first | exact (h : False).elim | exact g_imul C hq (hK _ _ _ _ _ _ h)
  · -- 15
    rcases st with _ | ⟨x | x, st⟩
    all_goals first | exact (h : False).elim | exact g_ineg C hq (hK _ _ _ _ _ _ h)
  · -- 16
    rcases st with _ | ⟨y | y, _ | ⟨x | x, st⟩⟩
    all_goals first | exact (h : False).elim | exact g_idiv C hq (And.left h) (hK _ _ _ _ _ _ (And.right h))
  · -- 17
    rcases st with _ | ⟨y | y, _ | ⟨x | x, st⟩⟩
    all_goals first | exact (h : False).elim | exact g_irem C hq (And.left h) (hK _ _ _ _ _ _ (And.right h))
  · -- 18
    rcases st with _ | ⟨y | y, _ | ⟨x | x, st⟩⟩
    all_goals first | exact (h : False).elim | exact g_iand C hq (hK _ _ _ _ _ _ h)
  · -- 19
    rcases st with _ | ⟨y | y, _ | ⟨x | x, st⟩⟩
    all_goals first | exact (h : False).elim | exact g_ior C hq (hK _ _ _ _ _ _ h)
  · -- 20
    rcases st with _ | ⟨y | y, _ | ⟨x | x, st⟩⟩
    all_goals first | exact (h : False).elim | exact g_ixor C hq (hK _ _ _ _ _ _ h)
  · -- 21
    rcases st with _ | ⟨y | y, _ | ⟨x | x, st⟩⟩
    all_goals first | exact (h : False).elim | exact g_ishl C hq (hK _ _ _ _ _ _ h)
  · -- 22
    rcases st with _ | ⟨y | y, _ | ⟨x | x, st⟩⟩
    all_goals first | exact (h : False).elim | exact g_ishr C hq (hK _ _ _ _ _ _ h)
  · -- 23
    rcases st with _ | ⟨x, st⟩
    · exact (h : False).elim
    · exact g_dup C hq (hK _ _ _ _ _ _ h)
  · -- 24
    rcases st with _ | ⟨x, st⟩
    · exact (h : False).elim
    · exact g_pop C hq (hK _ _ _ _ _ _ h)
  · -- 25
    rcases st with _ | ⟨x, _ | ⟨y, st⟩⟩
    · exact (h : False).elim
    · exact (h : False).elim
    · exact g_dup2 C hq (hK _ _ _ _ _ _ h)
  · -- 26
    rcases st with _ | ⟨x | x, st⟩
    all_goals first | exact (h : False).elim | exact g_if_eq C hq (by omega) ⟨fun z => hK _ _ _ _ _ _ (And.left h z), fun z => hK _ _ _ _ _ _ (And.right h z)⟩
  · -- 27
    rcases st with _ | ⟨x | x, st⟩
    all_goals first | exact (h : False).elim | exact g_if_ne C hq (by omega) ⟨fun z => hK _ _ _ _ _ _ (And.left h z), fun z => hK _ _ _ _ _ _ (And.right h z)⟩
  · -- 28
    rcases st with _ | ⟨x | x, st⟩
    all_goals first | exact (h : False).elim | exact g_if_lt C hq (by omega) ⟨fun z => hK _ _ _ _ _ _ (And.left h z), fun z => hK _ _ _ _ _ _ (And.right h z)⟩
  · -- 29
    rcases st with _ | ⟨x | x, st⟩
    all_goals first | exact (h : False).elim | exact g_if_ge C hq (by omega) ⟨fun z => hK _ _ _ _ _ _ (And.left h z), fun z => hK _ _ _ _ _ _ (And.right h z)⟩
  · -- 30
    rcases st with _ | ⟨x | x, st⟩
    all_goals first | exact (h : False).elim | exact g_if_gt C hq (by omega) ⟨fun z => hK _ _ _ _ _ _ (And.left h z), fun z => hK _ _ _ _ _ _ (And.right h z)⟩
  · -- 31
    rcases st with _ | ⟨x | x, st⟩
    all_goals first | exact (h : False).elim | exact g_if_le C hq (by omega) ⟨fun z => hK _ _ _ _ _ _ (And.left h z), fun z => hK _ _ _ _ _ _ (And.right h z)⟩
  · -- 32
    rcases st with _ | ⟨y | y, _ | ⟨x | x, st⟩⟩
    all_goals first | exact (h : False).elim | exact g_icmp_eq C hq (by omega) ⟨fun z => hK _ _ _ _ _ _ (And.left h z), fun z => hK _ _ _ _ _ _ (And.right h z)⟩
  · -- 33
    rcases st with _ | ⟨y | y, _ | ⟨x | x, st⟩⟩
    all_goals first | exact (h : False).elim | exact g_icmp_ne C hq (by omega) ⟨fun z => hK _ _ _ _ _ _ (And.left h z), fun z => hK _ _ _ _ _ _ (And.right h z)⟩
  · -- 34
    rcases st with _ | ⟨y | y, _ | ⟨x | x, st⟩⟩
    all_goals first | exact (h : False).elim | exact g_icmp_lt C hq (by omega) ⟨fun z => hK _ _ _ _ _ _ (And.left h z), fun z => hK _ _ _ _ _ _ (And.right h z)⟩
  · -- 35
    rcases st with _ | ⟨y | y, _ | ⟨x | x, st⟩⟩
    all_goals first | exact (h : False).elim | exact g_icmp_ge C hq (by omega) ⟨fun z => hK _ _ _ _ _ _ (And.left h z), fun z => hK _ _ _ _ _ _ (And.right h z)⟩
  · -- 36
    rcases st with _ | ⟨y | y, _ | ⟨x | x, st⟩⟩
    all_goals first | exact (h : False).elim | exact g_icmp_gt C hq (by omega) ⟨fun z => hK _ _ _ _ _ _ (And.left h z), fun z => hK _ _ _ _ _ _ (And.right h z)⟩
  · -- 37
    rcases st with _ | ⟨y | y, _ | ⟨x | x, st⟩⟩
    all_goals first | exact (h : False).elim | exact g_icmp_le C hq (by omega) ⟨fun z => hK _ _ _ _ _ _ (And.left h z), fun z => hK _ _ _ _ _ _ (And.right h z)⟩
  · -- 38
    exact g_goto C hq (by omega) (hK _ _ _ _ _ _ h)
  · -- 39
    simp only [stp] at h
    rcases hf : tb.1 a with _ | ⟨ci, j, ty⟩
    · rw [hf] at h; exact h.elim
    rw [hf] at h
    rcases st with _ | ⟨x | ⟨k, e', i⟩, st⟩
    · exact (h : False).elim
    · exact (h : False).elim
    simp only [] at h
    rcases hs : SH k with ⟨ci', sl⟩ | z
    · rw [hs] at h
      obtain ⟨h1, h2⟩ := b2p_sp h
      have h1 := Nat.eq_of_beq_eq_true h1
      subst h1
      obtain ⟨o, h3, h4⟩ := lnthK_sp _ _ h2
      rcases o with _ | t
      · obtain ⟨h5, h6⟩ := b2p_sp h4
        exact g_get C (hF _ _ hf) hq hs (v := .inl (σ k e' i j)) (slv_int h3) (fun _ => trivial) (hK _ _ _ _ _ _ h6)
      · obtain ⟨h5, h6⟩ := b2p_sp h4
        exact g_get C (hF _ _ hf) hq hs (v := .inr (tgt t e' i j)) (slv_ref h3) (fun z => SH_o hs h3 z) (hK _ _ _ _ _ _ h6)
    · rw [hs] at h; exact h.elim
  · -- 40
    simp only [stp] at h
    rcases hf : tb.1 a with _ | ⟨ci, j, ty⟩
    · rw [hf] at h; exact h.elim
    rw [hf] at h
    rcases st with _ | ⟨x | x, _ | ⟨y | ⟨k, e', i⟩, st⟩⟩
    · exact (h : False).elim
    · exact (h : False).elim
    · exact (h : False).elim
    · simp only [] at h
      rcases hs : SH k with ⟨ci', sl⟩ | z
      · rw [hs] at h
        obtain ⟨h1, h2⟩ := b2p_sp h
        have h1 := Nat.eq_of_beq_eq_true h1
        subst h1
        obtain ⟨o, h3, h4⟩ := lnthK_sp _ _ h2
        rcases o with _ | t
        · rcases ty with _ | _ | ty
          · exact g_put C (hF _ _ hf) hq hs h3 (Or.inl rfl) (hK _ _ _ _ _ _ h4)
          · exact g_put C (hF _ _ hf) hq hs h3 (Or.inr ⟨rfl, And.left h4⟩) (hK _ _ _ _ _ _ (And.right h4))
          · exact (h4 : False).elim
        · exact (h4 : False).elim
      · rw [hs] at h; exact h.elim
    all_goals exact (h : False).elim
  · -- 41
    rcases st with _ | ⟨x | x, _ | ⟨y | ⟨k, e', i⟩, st⟩⟩
    · exact (h : False).elim
    · exact (h : False).elim
    · exact (h : False).elim
    · simp only [stp] at h
      rcases hs : SH k with z | ⟨t, n, r⟩
      · rw [hs] at h; exact h.elim
      · rw [hs] at h
        split at h
        · rename_i heq; cases heq
        · rename_i heq; cases heq; exact g_iald C hq hs h.1 (hK _ _ _ _ _ _ h.2)
        · rename_i heq; cases heq; exact g_sald C hq hs h.1 (hK _ _ _ _ _ _ h.2)
        · exact h.elim
    all_goals exact (h : False).elim
  · -- 42
    rcases st with _ | ⟨v | v, _ | ⟨x | x, _ | ⟨y | ⟨k, e', i⟩, st⟩⟩⟩
    · exact (h : False).elim
    · exact (h : False).elim
    · exact (h : False).elim
    · exact (h : False).elim
    · simp only [stp] at h
      rcases hs : SH k with z | ⟨t, n, r⟩
      · rw [hs] at h; exact h.elim
      · rw [hs] at h
        split at h
        · rename_i heq; cases heq
        · rename_i heq; cases heq; exact g_iast C hq hs h.1 (hK _ _ _ _ _ _ h.2)
        · exact h.elim
    all_goals exact (h : False).elim
  · -- 43
    rcases st with _ | ⟨x | x, _ | ⟨y | ⟨k, e', i⟩, st⟩⟩
    · exact (h : False).elim
    · exact (h : False).elim
    · exact (h : False).elim
    · simp only [stp] at h
      rcases hs : SH k with z | ⟨t, n, r⟩
      · rw [hs] at h; exact h.elim
      · rw [hs] at h
        split at h
        · rename_i heq; cases heq
        · rename_i heq; cases heq; obtain ⟨h1, h2⟩ := b2p_sp h; exact g_aald C hq hs (Nat.le_of_ble_eq_true h1) h2.1 (hK _ _ _ _ _ _ h2.2)
        · exact h.elim
    all_goals exact (h : False).elim
  · -- 44
    rcases st with _ | ⟨x | ⟨k, e', i⟩, st⟩
    · exact (h : False).elim
    · exact (h : False).elim
    · simp only [stp] at h
      rcases hs : SH k with z | ⟨t, n, r⟩
      · rw [hs] at h; exact h.elim
      · rw [hs] at h
        exact g_alen C hq hs (hK _ _ _ _ _ _ h)
  · -- 45
    simp only [stp] at h
    rcases hf : tb.2.1 a with _ | k
    · rw [hf] at h; exact h.elim
    · rw [hf] at h
      obtain ⟨h1, h2⟩ := b2p_sp h
      exact g_gets C (Nat.lt_of_lt_of_le (Nat.lt_succ_self _) (Nat.le_of_ble_eq_true h1)) (hG _ _ hf) hq (hK _ _ _ _ _ _ h2)
  · -- 46
    simp only [stp] at h
    rcases hf : tb.2.2.1 a with _ | ⟨n, ci, Sp, mc, ms⟩
    · rw [hf] at h; exact h.elim
    · rw [hf] at h
      obtain ⟨av, st', h1, h2, h3⟩ := takeK_sp n st [] h
      rw [List.append_nil] at h3
      obtain ⟨h4, h5⟩ := b2p_sp h3
      simp only [Bool.and_eq_true] at h4
      have z1 := Nat.le_of_ble_eq_true h4.1
      have z2 := Nat.le_of_ble_eq_true h4.2.1
      have z3 := Nat.le_of_ble_eq_true h4.2.2
      rcases av with _ | ⟨x | ⟨k0, e0, i0⟩, avr⟩
      · exact (h5 : False).elim
      · exact (h5 : False).elim
      simp only [] at h5
      rcases hs : SH k0 with ⟨ci', sl⟩ | z
      · rw [hs] at h5
        obtain ⟨h6, h7⟩ := b2p_sp h5
        have h6 := Nat.eq_of_beq_eq_true h6
        subst h6
        rcases hC a _ hf with ⟨g1, -⟩ | ⟨-, g2⟩
        · exact absurd g1 (SH_c hs)
        · rw [h1]
          exact g2 pc L st' avr k0 e0 i0 sl σ nc ns _ hq hs h2 z1 (Nat.le_trans z2 hR.2.1) (Nat.le_trans z3 hR.2.2) h7 (fun r σ' hv => hK _ _ _ _ _ _ hv)
      · rw [hs] at h5; exact h5.elim
  · -- 47
    simp only [stp] at h
    rcases hf : tb.2.2.1 a with _ | ⟨n, ci, Sp, mc, ms⟩
    · rw [hf] at h; exact h.elim
    · rw [hf] at h
      obtain ⟨av, st', h1, h2, h3⟩ := takeK_sp n st [] h
      rw [List.append_nil] at h3
      obtain ⟨h4, h5⟩ := b2p_sp h3
      have z0 : ci = 1000 := by
        simp only [Bool.and_eq_true] at h4
        exact Nat.eq_of_beq_eq_true h4.1
      have h4 := ((Bool.and_eq_true _ _).mp h4).2
      simp only [Bool.and_eq_true] at h4
      have z1 := Nat.le_of_ble_eq_true h4.1
      have z2 := Nat.le_of_ble_eq_true h4.2.1
      have z3 := Nat.le_of_ble_eq_true h4.2.2
      rcases hC a _ hf with ⟨-, g2⟩ | ⟨g1, -⟩
      · rw [h1]
        exact g2 pc L st' av σ nc ns _ hq h2 z1 (Nat.le_trans z2 hR.2.1) (Nat.le_trans z3 hR.2.2) h5 (fun r σ' hv => hK _ _ _ _ _ _ hv)
      · exact absurd z0 g1
  · -- 48
    simp only [stp] at h
    rcases st with _ | ⟨x | x, _ | ⟨y, st⟩⟩
    · exact (h : False).elim
    · obtain ⟨h1, h2⟩ := b2p_sp h
      simp only [Bool.and_eq_true] at h1
      have z1 := Nat.le_of_ble_eq_true h1.1
      have z2 := Nat.le_of_ble_eq_true h1.2
      rcases hrt : tb.2.2.2.2.1 with _ | _ | rt
      · rw [hrt] at h2; exact rI pc L x σ nc ns hq (Or.inl hrt) z1 z2 h2
      · rw [hrt] at h2; exact rI pc L x σ nc ns hq (Or.inr ⟨hrt, h2.1⟩) z1 z2 h2.2
      · rw [hrt] at h2; exact (h2 : False).elim
    all_goals exact (h : False).elim
  · -- 49
    simp only [stp] at h
    rcases st with _ | ⟨x, st⟩
    · obtain ⟨h1, h2⟩ := b2p_sp h
      simp only [Bool.and_eq_true] at h1
      exact rV pc L σ nc ns hq (Nat.eq_of_beq_eq_true h1.1) (Nat.le_of_ble_eq_true h1.2.1) (Nat.le_of_ble_eq_true h1.2.2) h2
    · exact (h : False).elim
  · -- 50
    simp only [stp] at h
    rcases st with _ | ⟨x | x, _ | ⟨y, st⟩⟩
    · exact (h : False).elim
    · exact (h : False).elim
    · exact (h : False).elim
    · obtain ⟨h1, h2⟩ := b2p_sp h
      simp only [Bool.and_eq_true] at h1
      exact rA pc L x σ nc ns hq (Nat.eq_of_beq_eq_true h1.1) (Nat.le_of_ble_eq_true h1.2.1) (Nat.le_of_ble_eq_true h1.2.2) h2
    · exact (h : False).elim
  · -- 51
    simp only [stp] at h
    rcases hf : tb.2.2.2.1[a]? with _ | ⟨lo, ts, df, len⟩
    · rw [hf] at h; exact h.elim
    · rw [hf] at h
      rcases st with _ | ⟨x | x, st⟩
      · exact (h : False).elim
      · simp only [dec, hf] at hq
        exact g_switch C hq ⟨swc_m (fun t ht => hK _ _ _ _ _ _ ht) ts lo h.1, fun z => hK _ _ _ _ _ _ (h.2 z)⟩
      · exact (h : False).elim
  · -- 52
    simp only [stp] at h
    rcases hf : tb.2.1 a with _ | k
    · rw [hf] at h; exact h.elim
    · rw [hf] at h
      split at h
      · rename_i heq; cases heq
        rcases st with _ | ⟨y | y, _ | ⟨x | x, st⟩⟩
        · exact (h : False).elim
        · exact (h : False).elim
        · obtain ⟨h1, h2⟩ := b2p_sp h
          simp only [Bool.and_eq_true] at h1
          exact g_mmin C ((hG _ _ hf).1 rfl) ⟨(hR.1 _ _ hf (by decide)).1, (hR.1 _ _ hf (by decide)).2, Nat.le_trans (Nat.le_of_ble_eq_true h1.2.1) hR.2.1, Nat.le_trans (Nat.le_of_ble_eq_true h1.2.2) hR.2.2⟩ (Nat.le_of_ble_eq_true h1.1) hq (hK _ _ _ _ _ _ h2)
        all_goals exact (h : False).elim
      · exact h.elim
  · -- 53
    simp only [stp] at h
    rcases hf : tb.2.1 a with _ | k
    · rw [hf] at h; exact h.elim
    · rw [hf] at h
      split at h
      · rename_i heq; cases heq
        rcases st with _ | ⟨y | y, _ | ⟨x | x, st⟩⟩
        · exact (h : False).elim
        · exact (h : False).elim
        · obtain ⟨h1, h2⟩ := b2p_sp h
          simp only [Bool.and_eq_true] at h1
          exact g_mmax C ((hG _ _ hf).2.1 rfl) ⟨(hR.1 _ _ hf (by decide)).1, (hR.1 _ _ hf (by decide)).2, Nat.le_trans (Nat.le_of_ble_eq_true h1.2.1) hR.2.1, Nat.le_trans (Nat.le_of_ble_eq_true h1.2.2) hR.2.2⟩ (Nat.le_of_ble_eq_true h1.1) hq (hK _ _ _ _ _ _ h2)
        all_goals exact (h : False).elim
      · exact h.elim
  · -- 54
    simp only [stp] at h
    rcases hf : tb.2.1 a with _ | k
    · rw [hf] at h; exact h.elim
    · rw [hf] at h
      split at h
      · rename_i heq; cases heq
        split at h
        · rename_i n dp kd ed id sp ks es is st'
          split at h
          · rename_i n0 r0 n1 r1 hs0 hs1
            obtain ⟨h1, h2⟩ := b2p_sp h
            exact g_copy C ((hG _ _ hf).2.2.1 rfl) (hR.1 _ _ hf (by decide)) (Nat.le_of_ble_eq_true h1) hs0 hs1 h2.1 hq (hK _ _ _ _ _ _ h2.2)
          · exact h.elim
        · exact h.elim
      · exact h.elim
  · -- 55
    simp only [stp] at h
    obtain ⟨h1, h2⟩ := b2p_sp h
    simp only [Bool.and_eq_true] at h1
    exact hT rfl L st σ nc ns (Nat.le_of_ble_eq_true h1.1) (Nat.le_of_ble_eq_true h1.2.1) (Nat.le_of_ble_eq_true h1.2.2) h2
theorem wp_sound (C : Cx p s m args c cc nL own D cA ad A) (hF : ∀ a v, tb.1 a = some v → FldOK own a v) (hG : ∀ a k, tb.2.1 a = some k → StaOK own a k) (hC : ∀ a v, tb.2.2.1 a = some v → CalOK p l e R s m args below meth c Q nL D cA ad A cc Ψ a v)
    (hR : (∀ a k, tb.2.1 a = some k → 300 ≤ k → 1 ≤ R.frames ∧ 26 ≤ R.locals) ∧ tb.2.2.2.2.2.1 ≤ R.cells ∧ tb.2.2.2.2.2.2 ≤ R.slots) (rI : RetI p l e R s m args below meth c Q nL D cA ad A cc Φ tb.2.2.2.2.1 tb.2.2.2.2.2.1 tb.2.2.2.2.2.2) (rV : RetV p l e R s m args below meth c Q nL D cA ad A cc Φ tb.2.2.2.2.1 tb.2.2.2.2.2.1 tb.2.2.2.2.2.2) (rA : RetA p l e R s m args below meth c Q nL D cA ad A cc Φ tb.2.2.2.2.1 tb.2.2.2.2.2.1 tb.2.2.2.2.2.2)
    {pr : List Ent} {stops : List Nat} {Z : KK} (hpr : ∀ q ∈ pr, decode cc q.1 = .ok (dec tb.2.2.2.1 q) ∧ okE q = true) (hT : ∀ q ∈ pr, q.2.1 = 55 → ThrG p l e R s m args below meth c Q nL D cA ad A Ψ tb.2.2.2.2.2.1 tb.2.2.2.2.2.2 q) (hZ : ∀ pc L st σ nc ns, Z pc L st σ nc ns → GW p l e R s m args below meth c Q nL D cA ad A (pc) (L) (st) (σ) (nc) (ns)) : ∀ (f pc : Nat) (L : List (Option AV)) (st : List AV) (σ : Sg) (nc ns : Nat), wp tb Φ Ψ pr stops Z f pc L st σ nc ns → GW p l e R s m args below meth c Q nL D cA ad A (pc) (L) (st) (σ) (nc) (ns)
  | 0, _, _, _, _, _, _, h => (h : False).elim
  | f + 1, pc, L, st, σ, nc, ns, h => by
    obtain ⟨q, h1, h2, h3⟩ := lkK_sp pr pc h
    subst h2
    refine stp_sound C hF hG hC hR rI rV rA (K := fun pc L st σ nc ns => match elemN stops pc with
      | true => Z pc L st σ nc ns
      | false => wp tb Φ Ψ pr stops Z f pc L st σ nc ns) (fun pc L st σ nc ns hv => ?_) q (hT q h1) (hpr q h1).1 (hpr q h1).2 h3
    rcases hb : elemN stops pc with _ | _
    · simp only [hb] at hv
      exact wp_sound C hF hG hC hR rI rV rA hpr hT hZ f pc L st σ nc ns hv
    · simp only [hb] at hv
      exact hZ pc L st σ nc ns hv
end SND
end
section

def rmd (fr lo mc ms : Nat) : Room := { frames := fr, cells := mc, slots := ms, locals := lo }
def PcC (D : va_G) (cA : Nat → ClassId) (ad : Pl → Nat) (N0 : Nat) (av : List AV) (σ : Sg) : Array Value → State → Prop := va_Pc (av.map (cv ad)) (fun U => N0 ≤ U.heap.size ∧ va_P D vwCl (wl ad cA σ) U.heap ∧ va_K D vwCl (TY cA) U ∧ STt ad (fun q => N0 ≤ q) U)
def QcC (D : va_G) (cA : Nat → ClassId) (ad : Pl → Nat) (N0 : Nat) (K : Option AV → Sg → Prop) (kx : String → Sg → Prop) : Array Value → State → Outcome → State → Prop := fun _ st oc t => ((∃ (r : Option AV) (σ : Sg), oc = .returned (r.map (cv ad)) ∧ okR r ∧ K r σ ∧ va_P D vwCl (wl ad cA σ) t.heap) ∨ (∃ (q : Addr) (E : String) (ce : Cell) (σ : Sg), oc = .threw q ∧ kx E σ ∧ va_P D vwCl (wl ad cA σ) t.heap ∧ t.heap[q]? = some ce ∧ ce.vm = .none ∧ st.vm.findClass E = some ce.cls)) ∧ va_F (fun q => N0 ≤ q) st t
/-- a method's contract: room of d frames, mc cells, ms slots; what it does -/
def Ctr (y : MethodName) (b : ByteArray) (nL : Nat) (ret : Option FieldType) (fr lo mc ms : Nat) (Sp : CSp) : Prop :=
  ∀ (l : Launch) (D : va_G) (cA : Nat → ClassId) (ad : Pl → Nat) (N0 : Nat) (av : List AV) (σ : Sg) (K : Option AV → Sg → Prop) (kx : String → Sg → Prop), l.stackTraces = false → (∀ σ, va_D (fun q => N0 ≤ q) (wl ad cA σ)) → okS av → Sp av σ K kx → xt_Met l y (.code y b nL ret :: GWS) (rmd fr lo mc ms) (PcC D cA ad N0 av σ) (QcC D cA ad N0 K kx) mc ms (fun q => N0 ≤ q)
theorem PcC_bl {D : va_G} {cA : Nat → ClassId} {ad : Pl → Nat} {N0 : Nat} {av : List AV} {σ : Sg} : FrameBlind (PcC D cA ad N0 av σ) := by
  intro a U g mk h
  obtain ⟨q0, q1, qP, qK, qS⟩ := h
  exact ⟨q0, q1, qP, va_K.moved (u := U) (U := U.calling g mk a) (Vm.Alike.refl U.vm) qK, STt_same (U := U) (V := U.calling g mk a) rfl rfl qS⟩
theorem gw_good {w : Cond} (h : w ∈ GWS) : (w.onTables && w.keeps) = true ∨ ∃ ty, w = .arrayClass ty := good_of_word (GWS_good w h)
theorem gw_in {y : MethodName} {b : ByteArray} {nL : Nat} {ret : Option FieldType} (h : Cond.code y b nL ret ∈ GWS) : GoodIn GWS (.code y b nL ret :: GWS) := fun w hw => by
  rcases List.mem_cons.mp hw with e | e
  · subst e
    exact ⟨h, gw_good h⟩
  · exact ⟨e, gw_good e⟩
/-- what a call asks of the tables: kind 0 a method of an object, 1 a static one of the class itself or of another, 2 a private static one of the nest -/
def StcOK (own : String) (fr lo : Nat) (a : Nat) (v : Nat × Nat × CSp × Nat × Nat) : Prop := ∃ (y : MethodName) (b : ByteArray) (nL : Nat) (ret : Option FieldType) (fr' lo' n' : Nat), Ctr y b nL ret fr' lo' v.2.2.2.1 v.2.2.2.2 v.2.2.1 ∧ (fr' + 1 ≤ fr ∧ 19 + nL + lo' ≤ lo) ∧ Cond.code y b nL ret ∈ GWS ∧ Cond.initialized y.cls ∈ GWS ∧ (y.cls ≠ "java/lang/invoke/MethodHandle" ∧ y.cls ≠ "java/lang/invoke/VarHandle" ∧ (parseMethodDescriptor y.desc).map (fun d => d.parameters.length) = some n') ∧
  ((v.1 = n' + 1 ∧ v.2.1 ≠ 1000 ∧ Cond.methodLink own a y ∈ GWS ∧ Cond.instanceMethod y ∈ GWS ∧ ∃ (T : u_T) (N : Nat), vwCl[v.2.1]? = some (y.cls, T, N) ∧ Cond.selects y.cls y y ∈ GWS) ∨
   (v.1 = n' ∧ v.2.1 = 1000 ∧ Cond.methodLink own a y ∈ GWS ∧ Cond.static y ∈ GWS) ∨
   (v.1 = n' ∧ v.2.1 = 1000 ∧ (∃ host, Cond.methodLinkNest own a y host ∈ NWS) ∧ Cond.static y ∈ GWS))
section CTR
variable {p : Program} {l : Launch} {e : Env} {R : Room} {s : State} {m : MethodId} {args : Array Value} {below : List Frame} {meth : Method} {c : Code} {Q : State → Prop}
variable {cc : ByteArray} {nL : Nat} {own : String} {D : va_G} {cA : Nat → ClassId} {ad : Pl → Nat} {N0 : Nat} {Ψ : String → Sg → Prop}
theorem pso_cv (r : Option AV) (st : List AV) : (r.map (cv ad)).toList ++ st.map (cv ad) = (pso r st).map (cv ad) := by cases r <;> rfl
theorem okS_pso {r : Option AV} {st : List AV} (hr : okR r) (h : okS st) : okS (pso r st) := by
  cases r with
  | none => exact h
  | some v => exact okS_p hr h
/-- the frame g, with q thrown over it, comes to Q -/
def xt_W (p : Program) (l : Launch) (e : Env) (R : Room) (s : State) (m : MethodId) (args : Array Value) (below : List Frame) (meth : Method) (c : Code) (H : Heap) (locs : List Loc) (cells slots : Nat) (Q : State → Prop) (g : JFrame) (q : Addr) : Prop :=
  ∀ T : State, T.heap = H → Stand p l e R s m args below meth c T locs cells slots → ∃ t, Steps p.tables e below ((T.setTop g).pushFrame (.throwing q)) t ∧ Q t
/-- where a method throws on -/
def XO (p : Program) (l : Launch) (e : Env) (R : Room) (s : State) (m : MethodId) (args : Array Value) (below : List Frame) (meth : Method) (c : Code) (Q : State → Prop) (D : va_G) (cA : Nat → ClassId) (ad : Pl → Nat) (A : Nat → Prop) (Ψ : String → Sg → Prop) : Prop :=
  ∀ (E : String) (σ : Sg) (H : Heap) (locs : List Loc) (pc : Nat) (ls : Array Slot) (st : List Value) (q : Addr) (ce : Cell) (nc ns : Nat), Ψ E σ → va_P D vwCl (wl ad cA σ) H → va_S A s.heap H locs → H[q]? = some ce → ce.vm = .none → s.vm.findClass E = some ce.cls → nc ≤ R.cells → ns ≤ R.slots → xt_W p l e R s m args below meth c H locs nc ns Q (F0 m pc ls st) q
theorem run_go {pc : Nat} {L : List (Option AV)} {st stk : List AV} {σ : Sg} {nc ns mc ms : Nat} {K : Option AV → Sg → Prop} (hX : XO p l e R s m args below meth c Q D cA ad (fun q => N0 ≤ q) Ψ) (hc : nc + mc ≤ R.cells) (hs : ns + ms ≤ R.slots) (hok : okS stk → okS st)
    (hrun : ∀ (T : State) (locs : List Loc) (ls : Array Slot), okS stk → va_P D vwCl (wl ad cA σ) T.heap → va_S (fun q => N0 ≤ q) s.heap T.heap locs → lv_has ls nL (prs ad 0 L) → Stand p l e R s m args below meth c T locs nc ns →
      ∃ (vm₁ : Vm) (a : Array Value) (mk : MethodId) (g : JFrame) (o : Outcome) (t U' : State) (L : List Loc), s.WarmedH vm₁ ∧ g = F0 m pc ls (st.map (cv ad)) ∧ Stand p l e R s m args below meth c U' (locs ++ L) (nc + mc) (ns + ms) ∧ (∀ z ∈ L, N0 ≤ z.base) ∧ U'.heap = t.heap ∧ U'.vm = t.vm ∧ QcC D cA ad N0 K Ψ a ((T.setVm vm₁).calling g mk a) o t ∧ ∀ t2, Steps p.tables e below (xt_at o g U') t2 → Steps p.tables e below (T.setTop (F0 m pc ls (stk.map (cv ad)))) t2)
    (hk : ∀ r σ', K r σ' → GW p l e R s m args below meth c Q nL D cA ad (fun q => N0 ≤ q) (pc + 3) (L) (pso r st) (σ') (nc + mc) (ns + ms)) : GW p l e R s m args below meth c Q nL D cA ad (fun q => N0 ≤ q) (pc) (L) (stk) (σ) (nc) (ns) := by
  intro o1 o2 o3 H locs ls hP hS hl T hT X
  subst hT
  obtain ⟨vm₁, a, mk, g, o, t, U', Lc, hW, rfl, X', hL, e1, e2, ⟨hq, hF⟩, stps⟩ := hrun T locs ls o2 hP hS hl X
  have k3 : va_S (fun q => N0 ≤ q) s.heap U'.heap (locs ++ Lc) := xt_keep (H := T.heap) rfl e1 hS hL hF
  rcases hq with ⟨r, σ', rfl, hokr, hkr, hPt⟩ | ⟨q, E, ce, σ', rfl, hx, hPt, hce, hcv, hcl⟩
  · obtain ⟨t2, a1, b1⟩ := hk r σ' hkr o1 (okS_pso hokr (hok o2)) o3 U'.heap (locs ++ Lc) ls (by rw [e1]; exact hPt) k3 hl U' rfl X'
    refine ⟨t2, stps t2 ?_, b1⟩
    show Steps p.tables e below (U'.setTop { F0 m pc ls (st.map (cv ad)) with pc := pc + 3, stack := (r.map (cv ad)).toList ++ st.map (cv ad) }) t2
    rw [pso_cv]
    exact a1
  · have hcl2 : s.vm.findClass E = some ce.cls := by
      have h9 : vm₁.findClass E = some ce.cls := hcl
      rw [hW.alike.findClass] at h9
      exact h9
    obtain ⟨t2, a1, b1⟩ := hX E σ' U'.heap (locs ++ Lc) pc ls (st.map (cv ad)) q ce (nc + mc) (ns + ms) hx (by rw [e1]; exact hPt) k3 (by rw [e1]; exact hce) hcv hcl2 hc hs U' rfl X'
    exact ⟨t2, stps t2 a1, b1⟩
theorem cal_of (C : Cx p s m args c cc nL own D cA ad (fun q => N0 ≤ q)) (hN : N0 ≤ s.heap.size) (hl0 : l.stackTraces = false) {fr lo : Nat} (hRf : R.frames = fr) (hRl : R.locals = lo) (hX : XO p l e R s m args below meth c Q D cA ad (fun q => N0 ≤ q) Ψ) {a : Nat} {v : Nat × Nat × CSp × Nat × Nat} (hS : StcOK own fr lo a v) : CalOK p l e R s m args below meth c Q nL D cA ad (fun q => N0 ≤ q) cc Ψ a v := by
  obtain ⟨y, b, nL', ret, fr', lo', n', hM, hd', hcode, hini, hdd, hkind⟩ := hS
  obtain ⟨n, ci, Sp, mc, ms⟩ := v
  have hts := C.2.2.2.2.1
  have hws : ∀ w ∈ (Cond.code y b nL' ret :: GWS), ∀ (a' : Array Value) (U : State), s.WarmedH U.vm → w.before a' U = true := pay_in hts (gw_in hcode)
  have hin9 : ∀ (a' : Array Value) (U : State), s.WarmedH U.vm → (Cond.initialized y.cls).before a' U = true := fun a' U hW => word_at hW (gw_good hini) (hts _ hini)
  have hlen : ∀ sig, parseMethodDescriptor y.desc = some sig → n' = sig.parameters.length := fun sig h => by
    have h2 := hdd.2.2
    rw [h] at h2
    exact (Option.some.inj h2).symm
  have hpc : ∀ (av : List AV) (σ : Sg) (T : State) (locs : List Loc), va_P D vwCl (wl ad cA σ) T.heap → va_S (fun q => N0 ≤ q) s.heap T.heap locs → ∀ vm₁ : Vm, s.WarmedH vm₁ → PcC D cA ad N0 av σ (av.map (cv ad)).toArray (T.setVm vm₁) := fun av σ T locs hP hS vm₁ hW =>
    ⟨rfl, Nat.le_trans hN hS.1, hP, va_K.moved (U := T.setVm vm₁) hW.alike C.2.2.2.2.2.1, STt_next (U := T.setVm vm₁) C.2.2.2.2.2.2.2.2 hS hW rfl⟩
  have hroom : ∀ (pc : Nat) (ls : Array Slot) (st : List AV), st.length ≤ 8 → 2 * (F0 m pc ls (st.map (cv ad))).monitorRoom + ((st.map (cv ad)).map fun v => v.category).sum + (nL' + 11) + lo' ≤ R.locals := fun pc ls st h => by
    rw [cv_sum, hRl]
    show 2 * 0 + st.length + (nL' + 11) + lo' ≤ lo
    omega
  obtain ⟨kfr, klo⟩ := hd'
  rcases hkind with ⟨e1, e2, hml, hin, T9, N9, hcl, hsel⟩ | ⟨e1, e2, hml, hst⟩ | ⟨e1, e2, ⟨host, hml⟩, hst⟩
  · refine Or.inr ⟨e2, ?_⟩
    intro pc L st avr k0 e0 i0 sl σ nc ns K hd hs hn hst hc hsl hSp hk
    refine run_go hX hc hsl (fun z => fun w hw => z w (List.mem_append_right _ hw)) (fun T locs ls o2 hP hS hl X => ?_) hk
    have okr : okS (.inr (k0, e0, i0) :: avr) := fun w hw => o2 w (List.mem_append_left _ (List.mem_reverse.mpr hw))
    obtain ⟨q, n1, n2⟩ := wl_ok (ad := ad) (cA := cA) (σ := σ) (okS_c okr).1 (isSt_o hs)
    rw [cel_o hs] at n2
    obtain ⟨cellB, hcB, hoB, hclB⟩ := va_recv C.2.2.2.2.2.1 hP hcl n2
    obtain ⟨mk, mM, hnamed, hmM, hstM, habM⟩ := Cond.instanceMethod_spec (hts _ hin)
    obtain ⟨mM', cM, hmM', -, -, -, -, -, -, hsigM⟩ := Cond.code_spec hnamed (hts _ hcode)
    cases hmM.symm.trans hmM'
    obtain ⟨c2, r2, m2, q1, q2, q3, q4, kP, hkP, hkPi⟩ := Cond.selects_spec (hts _ hsel)
    cases hclB.symm.trans q1
    cases (State.methodFound?_of_named hnamed ⟨hdd.1, hdd.2.1⟩).symm.trans q2
    cases hnamed.symm.trans q3
    have hselP : selectMethod e.platform s.vm cellB.cls mk = .method mk := by rw [Launch.admits_selectMethod X.admits]; exact q4
    have hstk : (((Sum.inr (k0, e0, i0) :: avr).reverse ++ st).map (cv ad)) = (avr.map (cv ad)).reverse ++ .ref (ad (k0, e0, i0)) :: st.map (cv ad) := by simp [cv]
    obtain ⟨vm₁, X₁, hstep⟩ := X.invokevirtual C.1 C.2.2.2.1 (hts _ hml) hnamed hmM hstM hkP hkPi ⟨hdd.1, hdd.2.1⟩ (a := ad (k0, e0, i0)) (cell := cellB) hcB
      (fun z h => by rw [h] at hoB; cases hoB) hselP hmM habM hkP hkPi (g := F0 m pc ls (((Sum.inr (k0, e0, i0) :: avr).reverse ++ st).map (cv ad))) rfl (argsL := avr.map (cv ad)) (rest := st.map (cv ad)) (by rw [List.length_map]; have z1 := hlen _ hsigM; have z2 : n = n' + 1 := e1; omega) hstk (by rw [C.2.1]; exact hd)
    obtain ⟨o, t, U', Lc, Y, hL, f1, f2, hQ, stp⟩ := xt_inv (hM l D cA ad N0 (.inr (k0, e0, i0) :: avr) σ K Ψ hl0 C.2.2.2.2.2.2.1 okr hSp) PcC_bl (by rw [hRf]; exact kfr) rfl rfl hws List.mem_cons_self hin9 X₁ (g := F0 m pc ls (st.map (cv ad))) rfl (by rw [C.2.2.1]; exact hl.1) (by rw [C.2.1]; exact hd) (hroom pc ls st hst) (X₁.named hnamed) hc hsl (hpc _ σ T locs hP hS vm₁ X₁.warmed)
    exact ⟨vm₁, _, mk, _, o, t, U', Lc, X₁.warmed, rfl, Y, hL, f1, f2, hQ, fun t2 ht2 => hstep _ fun acts => by rw [doInvoke_state]; exact stp.trans ht2⟩
  · refine Or.inl ⟨e2, ?_⟩
    intro pc L st av σ nc ns K hd hn hst2 hc hsl hSp hk
    refine run_go hX hc hsl (fun z => fun w hw => z w (List.mem_append_right _ hw)) (fun T locs ls o2 hP hS hl X => ?_) hk
    have okr : okS av := fun w hw => o2 w (List.mem_append_left _ (List.mem_reverse.mpr hw))
    obtain ⟨mk, hnamed⟩ := Cond.code_named (hts _ hcode)
    obtain ⟨mM, cM, hmM, -, -, -, -, -, -, hsigM⟩ := Cond.code_spec hnamed (hts _ hcode)
    have hsta : mM.isStatic = true := Cond.static_spec hnamed hmM (hts _ hst)
    obtain ⟨kP, hkP, -⟩ := className_of_methodNamed hnamed
    have hiP : kP.init = .initialized := Cond.initialized_spec (findClass_of_methodNamed hnamed) hkP (hts _ hini)
    obtain ⟨vm₁, X₁, hstep⟩ := X.invokestatic C.1 C.2.2.2.1 (hts _ hml) hnamed hmM hsta hkP hiP ⟨hdd.1, hdd.2.1⟩ (g := F0 m pc ls ((av.reverse ++ st).map (cv ad))) rfl (argsL := av.map (cv ad)) (rest := st.map (cv ad)) (by rw [List.length_map]; have z1 := hlen _ hsigM; have z2 : n = n' := e1; omega) (by simp) (by rw [C.2.1]; exact hd)
    obtain ⟨o, t, U', Lc, Y, hL, f1, f2, hQ, stp⟩ := xt_inv (hM l D cA ad N0 av σ K Ψ hl0 C.2.2.2.2.2.2.1 okr hSp) PcC_bl (by rw [hRf]; exact kfr) rfl rfl hws List.mem_cons_self hin9 X₁ (g := F0 m pc ls (st.map (cv ad))) rfl (by rw [C.2.2.1]; exact hl.1) (by rw [C.2.1]; exact hd) (hroom pc ls st hst2) (X₁.named hnamed) hc hsl (hpc _ σ T locs hP hS vm₁ X₁.warmed)
    exact ⟨vm₁, _, mk, _, o, t, U', Lc, X₁.warmed, rfl, Y, hL, f1, f2, hQ, fun t2 ht2 => hstep _ fun acts => by rw [doInvoke_state]; exact stp.trans ht2⟩
  · refine Or.inl ⟨e2, ?_⟩
    intro pc L st av σ nc ns K hd hn hst2 hc hsl hSp hk
    refine run_go hX hc hsl (fun z => fun w hw => z w (List.mem_append_right _ hw)) (fun T locs ls o2 hP hS hl X => ?_) hk
    have okr : okS av := fun w hw => o2 w (List.mem_append_left _ (List.mem_reverse.mpr hw))
    obtain ⟨mk, hnamed⟩ := Cond.code_named (hts _ hcode)
    obtain ⟨mM, cM, hmM, -, -, -, -, -, -, hsigM⟩ := Cond.code_spec hnamed (hts _ hcode)
    have hsta : mM.isStatic = true := Cond.static_spec hnamed hmM (hts _ hst)
    obtain ⟨kP, hkP, -⟩ := className_of_methodNamed hnamed
    have hiP : kP.init = .initialized := Cond.initialized_spec (findClass_of_methodNamed hnamed) hkP (hts _ hini)
    obtain ⟨vm₁, X₁, hstep⟩ := X.invokestaticNest C.1 C.2.2.2.1 (va_Nw.use (NWS_on _ hml) (C.2.2.2.2.2.2.2.2.2.1 _ hml)) hnamed hmM hsta hkP hiP ⟨hdd.1, hdd.2.1⟩ (g := F0 m pc ls ((av.reverse ++ st).map (cv ad))) rfl (argsL := av.map (cv ad)) (rest := st.map (cv ad)) (by rw [List.length_map]; have z1 := hlen _ hsigM; have z2 : n = n' := e1; omega) (by simp) (by rw [C.2.1]; exact hd)
    obtain ⟨o, t, U', Lc, Y, hL, f1, f2, hQ, stp⟩ := xt_inv (hM l D cA ad N0 av σ K Ψ hl0 C.2.2.2.2.2.2.1 okr hSp) PcC_bl (by rw [hRf]; exact kfr) rfl rfl hws List.mem_cons_self hin9 X₁ (g := F0 m pc ls (st.map (cv ad))) rfl (by rw [C.2.2.1]; exact hl.1) (by rw [C.2.1]; exact hd) (hroom pc ls st hst2) (X₁.named hnamed) hc hsl (hpc _ σ T locs hP hS vm₁ X₁.warmed)
    exact ⟨vm₁, _, mk, _, o, t, U', Lc, X₁.warmed, rfl, Y, hL, f1, f2, hQ, fun t2 ht2 => hstep _ fun acts => by rw [doInvoke_state]; exact stp.trans ht2⟩
end CTR
/-- what a body owes at its end -/
def xt_MQ (below : List Frame) (Q : Array Value → State → Outcome → State → Prop) (a : Array Value) (s : State) (mc ms : Nat) (free : Addr → Prop) : State → Prop := fun t => ∃ o, t.status = .running ∧ Ended t below o ∧ Q a s o t ∧ xt_Fr s t mc ms free
theorem xt_ret {p : Program} {l : Launch} {e : Env} {R : Room} {s : State} {m : MethodId} {args : Array Value} {below : List Frame} {meth : Method} {c : Code} {H : Heap} {locs : List Loc} {cells slots mc ms : Nat} {free : Addr → Prop} {Qc : Array Value → State → Outcome → State → Prop} {g : JFrame} (k : W p l e R s m args below meth c H locs cells slots (MQ below Qc args s mc ms free) g) : W p l e R s m args below meth c H locs cells slots (xt_MQ below Qc args s mc ms free) g := by
  intro T hT X
  obtain ⟨t, a1, o, b1, b2, b3, L, ⟨-, h1, h2⟩, h3⟩ := k T hT X
  exact ⟨t, a1, o, b1, b2, b3, h1, L, h2, h3⟩
theorem xt_out {p : Program} {l : Launch} {e : Env} {R : Room} {s : State} {m : MethodId} {args : Array Value} {below : List Frame} {meth : Method} {c : Code} {H : Heap} {locs : List Loc} {cells slots mc ms pc : Nat} {ls : Array Slot} {rest : List Value} {q : Addr} {free : Addr → Prop} {Qc : Array Value → State → Outcome → State → Prop} (hout : ∀ x ∈ c.exceptionTable.toList, covers x pc = false) (hlocks : meth.locks = false)
    (hx : ∀ t : State, t.heap = H → s.WarmedH t.vm → Qc args s (.threw q) t) (hf : ∀ z ∈ locs, free z.base) (hc : cells ≤ mc) (hs : slots ≤ ms) : xt_W p l e R s m args below meth c H locs cells slots (xt_MQ below Qc args s mc ms free) (F0 m pc ls rest) q := by
  intro T hT X
  obtain ⟨st1, hrun, hend, hW, hsm⟩ := X.leaveThrown q (g := F0 m pc ls rest) rfl rfl rfl hout hlocks
  exact ⟨_, st1, .threw q, hrun, hend, hx _ hT hW, hW, locs, hsm.mono hc hs, hf⟩
theorem xt_ofW {l : Launch} {y : MethodName} {ws ws' : List Cond} {rm : Room} {Pc : Array Value → State → Prop} {Qc : Array Value → State → Outcome → State → Prop} {mc ms : Nat} {free : Addr → Prop} {cc : ByteArray} {maxL : Nat} {ret : Option FieldType} (hy : plainName y.cls = true) (hw : ws = Cond.code y cc maxL ret :: ws')
    (body : ∀ p e s m args below meth c s₁, BodyLoose p l y (headSpec ws rm) cc maxL ret e s m args below meth c s₁ → c.maxLocals = maxL → (∀ x ∈ c.exceptionTable.toList, False) → Pc args s →
      W p l e (headSpec ws rm).room s m args below meth c s.heap [] 0 0 (xt_MQ below Qc args s mc ms free) (entryFrame m args maxL)) : xt_Met l y ws rm Pc Qc mc ms free := by
  have hmem : Cond.code y cc maxL ret ∈ ws := by rw [hw]; exact List.mem_cons_self
  refine MetFree.of_bodyS (code := cc) (maxLocals := maxL) (ret := ret) hy ?_ ?_
  · intro args s m h hn
    obtain ⟨meth, c, h1, h2, h3, h4, h5, h6, -, -⟩ := Cond.code_spec hn (atoms_spec (ws := ws) h _ hmem)
    exact ⟨meth, c, h1, h2, h3, h4, h5, h6⟩
  · intro p e s m args below meth c s₁ B hml hP _
    have ht : ∀ x ∈ c.exceptionTable.toList, False := by
      obtain ⟨meth9, c9, h1, h2, -, -, -, -, h7, -⟩ := Cond.code_spec B.named (atoms_spec (ws := ws) B.pre _ hmem)
      cases Option.some.inj (h1.symm.trans B.method)
      cases Option.some.inj (h2.symm.trans (Stand.of_body B).code)
      intro x hx
      rw [Array.isEmpty_iff.mp h7] at hx
      cases hx
    obtain ⟨t, a1, o, b1, b2, b3, b4⟩ := body p e s m args below meth c s₁ B hml ht hP s₁ (by rw [B.state]; rfl) (Stand.of_body B)
    exact ⟨t, o, a1, b1, b2, b3, b4⟩
/-! ===== 'throw new E()': own rows ===== -/
/-- the four words of a throw that speak of the heap -/
def xt_hw : List Cond := [.isRef (.static Bundle.tN "UNASSIGNED_STACK" Bundle.steD), .isRef (.static Bundle.tN "SUPPRESSED_SENTINEL" Bundle.listD), .laysStatic Bundle.tN "UNASSIGNED_STACK" Bundle.steD, .laysStatic Bundle.tN "SUPPRESSED_SENTINEL" Bundle.listD]
/-- a throw at pc: its instructions and its words -/
def ThrOK (own : String) (cc : ByteArray) (q : Ent) : Prop := match q with
  | (pc, _, a, b, tg) => ∃ names : List String, decode cc (pc + 3) = .ok (.dup, 1) ∧ decode cc (pc + 4) = .ok (.invokespecial b.toNat, 3) ∧ decode cc (pc + 7) = .ok (.athrow, 1) ∧ Bundle.fit (exn tg) = true ∧ (∀ n ∈ names, Bundle.fit n = true) ∧ names.length ≤ 2 ∧ (Cond.classLink own a (exn tg) ∈ GWS ∧ Cond.initialized (exn tg) ∈ GWS ∧ ∀ w ∈ Bundle.ownAtoms0 own b.toNat (exn tg) names, w ∈ GWS ∨ w ∈ NWS ∨ w ∈ xt_hw)
section XTT
variable {p : Program} {l : Launch} {e : Env} {R : Room} {s : State} {m : MethodId} {args : Array Value} {below : List Frame} {meth : Method} {c : Code} {locs : List Loc} {cells slots : Nat}
/-- the frame that runs, taken as begun in the heap of this moment -/
theorem xt_re {T : State} (X : Stand p l e R s m args below meth c T locs cells slots) (k n : Nat) (hc : cells + k ≤ R.cells) (hs : slots + n ≤ R.slots) :
    Stand p l e { frames := R.frames, locals := R.locals, cells := k, slots := n } ((T.setVm s.vm).setFrames (.invoking m args :: below)) m args below meth c T [] 0 0 := by
  have ht : (T.setVm s.vm).topJava?.isSome := X.here.top
  have hfr : ((T.setVm s.vm).setFrames (.invoking m args :: below)).frames = .invoking m args :: below := State.frames_setFrames _ (State.cur_lt_of_top ht)
  obtain ⟨g0, h0⟩ := Option.isSome_iff_exists.mp ht
  obtain ⟨r, hr⟩ := State.topJava?_eq_some.mp h0
  obtain ⟨th, hth, -⟩ := State.frames_cons hr
  have hlim : e.platform.stackLimits (T.setVm s.vm).me = e.platform.stackLimits s.me := X.limits
  have hby : (T.setVm s.vm).me.stackBytes = s.me.stackBytes := X.bytes
  have hdrop : ((T.heap.toList.drop T.heap.size).map (·.slots.size)).sum = 0 := by
    rw [List.drop_eq_nil_of_le (Nat.le_of_eq Array.length_toList)]
    rfl
  have huse : ((T.setVm s.vm).setFrames (.invoking m args :: below)).localsInUse = s.localsInUse := by
    rw [State.localsInUse_invoking hfr (meth := meth) (c := c) X.method X.code, State.localsInUse_invoking X.frames X.method X.code]
  have hroom : ((T.setVm s.vm).setFrames (.invoking m args :: below)).hasRoom e.platform { frames := R.frames, locals := R.locals, cells := k, slots := n } = true := by
    have h := X.room
    have q1 := X.heapSize
    have q2 := X.used
    simp only [State.hasRoom, Bool.and_eq_true, decide_eq_true_eq] at h ⊢
    obtain ⟨⟨⟨⟨h1, h2, h3, h4, h5, h6⟩, h7⟩, h8⟩, h9⟩ := h
    rw [X.frames, List.length_cons] at h2 h3
    simp only [hfr, huse, List.length_cons, State.stackLimits_setFrames, State.stackBytes_setFrames, hlim, hby]
    refine ⟨⟨⟨⟨h1, h2, h3, h4, h5, h6⟩, ?_⟩, ?_⟩, X.book⟩
    · show T.heap.size + k ≤ e.platform.maxCells
      omega
    · show T.slotsUsed + n ≤ e.platform.maxSlots
      omega
  refine ⟨X.admits, X.cas, X.clock, hfr, hroom, X.hears, X.method, X.code, X.here, X.tail, X.warmed, by rw [State.stackLimits_setFrames]; rfl, by rw [State.stackBytes_setFrames]; rfl, ?_, Nat.le_refl _, Nat.le_refl _, ?_, ?_, fun a c9 h9 => ⟨c9, h9, rfl, rfl, fun _ _ => rfl⟩⟩
  · show T.setVm s.vm = { ((T.setVm s.vm).setFrames (.invoking m args :: below)).setFrames (T.setVm s.vm).frames with heap := T.heap, slotsUsed := T.slotsUsed }
    rw [State.setFrames_setFrames, State.setFrames_self hth]
    rfl
  · show T.slotsUsed = T.slotsUsed + ((T.heap.toList.drop T.heap.size).map (·.slots.size)).sum
    rw [hdrop]
    rfl
  · show ((T.heap.toList.drop T.heap.size).map (·.slots.size)).sum ≤ 0
    rw [hdrop]
    exact Nat.le_refl _
/-- old cells stay where nothing is written -/
theorem xt_old {s' U : State} {k n : Nat} (h : s'.sameButNew ({ U with vm := s'.vm } : State) [] k n) : s'.heap.size ≤ U.heap.size ∧ ∀ q : Nat, q < s'.heap.size → U.heap[q]? = s'.heap[q]? := by
  obtain ⟨-, h2, -, -, -, h6⟩ := h
  refine ⟨h2, fun q hq => ?_⟩
  obtain ⟨c9, e1, e2, -, e4⟩ := h6 q _ (Array.getElem?_eq_getElem hq)
  have hsl : c9.slots = (s'.heap[q]).slots := Array.ext_getElem? fun i => e4 i (fun hm => nomatch hm)
  have h9 : c9 = s'.heap[q] := by
    rw [hsl] at e2
    exact e2
  have e5 : U.heap[q]? = some c9 := e1
  rw [e5, h9, Array.getElem?_eq_getElem hq]
end XTT

theorem thr_of {p : Program} {l : Launch} {e : Env} {R : Room} {s : State} {m : MethodId} {args : Array Value} {below : List Frame} {meth : Method} {c : Code} {cc : ByteArray} {nL : Nat} {own : String} {D : va_G} {cA : Nat → ClassId} {ad : Pl → Nat} {N0 mc ms : Nat} {K : Option AV → Sg → Prop} {kx : String → Sg → Prop} (C : Cx p s m args c cc nL own D cA ad (fun q => N0 ≤ q)) (hl0 : l.stackTraces = false) {q : Ent} (hq : decode cc q.1 = .ok (.new q.2.2.1, 3)) (hT : ThrOK own cc q) (htab : ∀ x ∈ c.exceptionTable.toList, False) (hlocks : meth.locks = false) (hfr : 6 ≤ R.frames) (hlo : 89 ≤ R.locals) (hmc : mc ≤ R.cells) (hms : ms ≤ R.slots) :
    ThrG p l e R s m args below meth c (xt_MQ below (QcC D cA ad N0 K kx) args s mc ms (fun q => N0 ≤ q)) nL D cA ad (fun q => N0 ≤ q) kx mc ms q := by
  obtain ⟨pc, op, a, b, tg⟩ := q
  obtain ⟨names, d3, d4, d7, hfit, hfits, hlen, hk, hini, hat⟩ := hT
  intro L st σ nc ns hst hc hs hx o1 o2 o3 H locs ls hP hS hl T hTH X
  subst hTH
  have htr : e.platform.stackTraces = false := (show e.platform.stackTraces = l.stackTraces by rw [X.admits.platform]).trans hl0
  have Y := xt_re X 1 6 (Nat.le_trans hc hmc) (Nat.le_trans hs hms)
  obtain ⟨s', hs'⟩ : ∃ z, z = (T.setVm s.vm).setFrames (.invoking m args :: below) := ⟨_, rfl⟩
  rw [← hs'] at Y
  have hvm : s'.vm = s.vm := by rw [hs']; rfl
  have hhp : s'.heap = T.heap := by rw [hs']; rfl
  have hW0 : s.WarmedH s'.vm := by rw [hvm]; exact State.WarmedH.refl s
  have wd : ∀ w ∈ GWS, w.before args s' = true := fun w hw => word_at hW0 (gw_good hw) (C.2.2.2.2.1 w hw)
  have hU : Sx "UNASSIGNED_STACK" Bundle.steD (fun q => N0 ≤ q) s' s'.heap := by rw [hhp]; exact (C.2.2.2.2.2.2.2.2.2.2.1.kept hS.2.1).moved hW0.alike
  have hN : Sx "SUPPRESSED_SENTINEL" Bundle.listD (fun q => N0 ≤ q) s' s'.heap := by rw [hhp]; exact (C.2.2.2.2.2.2.2.2.2.2.2.kept hS.2.1).moved hW0.alike
  have h : ∀ w ∈ Bundle.ownAtoms0 own b.toNat (exn tg) names, w.before args s' = true := by
    intro w hw
    rcases hat w hw with h | h | h
    · exact wd w h
    · exact va_Nw.use (NWS_on w h) ((C.2.2.2.2.2.2.2.2.2.1 w h).same (NWS_on w h) hvm.symm)
    · simp only [xt_hw, List.mem_cons, List.not_mem_nil, or_false] at h
      rcases h with h | h | h | h <;> rw [h]
      · exact hU.ref
      · exact hN.ref
      · exact hU.lays
      · exact hN.lays
  have hown' : s'.vm.findClass own = some m.cls := by rw [hvm]; exact C.2.2.2.1
  have hins : (Cond.instantiable (exn tg) 6).before args s' = true := h _ (by simp [Bundle.ownAtoms0])
  obtain ⟨vm₁, cX, kX, hfX, hkX, -, -, X₁, st1⟩ := Y.newCold C.1 (own := own) (C := exn tg) (index := a) (n := 6) hown' (wd _ hk) hins (wd _ hini) (g := F0 m pc ls (st.map (cv ad))) rfl (by rw [C.2.1]; exact hq) (Nat.le_refl _) (Nat.le_refl _)
  generalize hT1 : (T.setVm vm₁).pushCell { cls := cX, slots := kX.instanceTypes.map defaultValue, vm := .none } = T1 at X₁ st1
  have hcellA : T1.heap[T.heap.size]? = some (freshCell cX kX) := by rw [← hT1]; exact State.heap_pushCell_size _ _
  have d3' : decode c.code (pc + 3) = .ok (.dup, 1) := by rw [C.2.1]; exact d3
  have hcat : (Value.ref T.heap.size).category = 1 := rfl
  obtain ⟨U, hsteps, hrun, hend, hW, hsame, ce, hce, hO⟩ := X₁.ctorThrow0 C.1 htr (own := own) (cls := exn tg) (names := names) (ic := b.toNat) hown' hfit hfits h (fun x hx => nomatch hx) hfX hkX hcellA (by rw [hhp]; exact Nat.le_refl _)
    (g := { method := m, pc := pc + 4, locals := ls, stack := .ref T.heap.size :: .ref T.heap.size :: st.map (cv ad), locked := none }) rfl (by rw [C.2.2.1]; exact hl.1) rfl rfl (rest := st.map (cv ad)) rfl
    (by rw [C.2.1]; exact d4) (by rw [C.2.1]; exact d7) (fun x hx => (htab x hx).elim) (by show names.length + 3 < R.frames; omega) (by
      show 2 * 0 + ((Value.ref T.heap.size :: st.map (cv ad)).map fun v => v.category).sum + (13 * (names.length + 1) + 41) ≤ R.locals
      rw [List.map_cons, List.sum_cons, hcat, cv_sum]
      omega) hlocks
  obtain ⟨f1, f2⟩ := xt_old hsame
  rw [hhp] at f1 f2
  have hWs : s.WarmedH U.vm := State.WarmedH.trans hW0 hW
  have hcl : s.vm.findClass (exn tg) = some ce.cls := by
    have h9 := hO.cls
    rw [hvm] at h9
    exact h9
  have hall : s.sameButNew ({ U with vm := s.vm } : State) locs mc ms := by
    subst hs'
    obtain ⟨e1, e2⟩ := hsame
    rw [State.setFrames_setFrames] at e1
    have h2 : (T.setVm s.vm).sameButNew ({ U with vm := s.vm } : State) [] (0 + 1) (0 + 6) := ⟨e1, e2⟩
    have h3 := X.same.trans h2
    rw [List.append_nil] at h3
    exact h3.mono hc hs
  have hPU : va_P D vwCl (wl ad cA σ) U.heap := hP.kept (fun k q hk => f2 q.1 ((hP k q hk).lt))
  have hFU : va_F (fun q => N0 ≤ q) s U := ⟨Nat.le_trans hS.1 f1, fun q h1 h2 => by rw [f2 q (Nat.lt_of_lt_of_le h1 hS.1)]; exact hS.2.1 q h1 h2⟩
  refine ⟨U, ?_, .threw T.heap.size, hrun, hend, ⟨Or.inr ⟨T.heap.size, exn tg, ce, σ, rfl, hx, hPU, hce, hO.vm, hcl⟩, hFU⟩, hWs, locs, hall, hS.2.2⟩
  refine st1 _ ?_
  show Steps p.tables e below (T1.setTop { method := m, pc := pc + 3, locals := ls, stack := .ref T.heap.size :: st.map (cv ad), locked := none }) _
  jvm_step X₁.here [X₁.here.top, C.1, d3', Value.category]
  exact hsteps
theorem sl_len (ad : Pl → Nat) : ∀ av : List AV, (lg_sl (av.map (cv ad))).length = av.length
  | [] => rfl
  | v :: av => by
    have h := sl_len ad av
    unfold lg_sl at h ⊢
    rw [List.map_cons, List.flatMap_cons, List.length_append, h, cv_cat]
    simp [Nat.add_comm]
/-- a method's contract, out of its run: from its entry, and from each stop with a measure that falls -/
theorem ctr_of {y : MethodName} {b : ByteArray} {nL : Nat} {ret : Option FieldType} {fr lo mc ms : Nat} {Sp : CSp} (hy : plainName y.cls = true) {FT : Nat → Option (Nat × Nat × Nat)} {GT : Nat → Option Nat} {CT : Nat → Option (Nat × Nat × CSp × Nat × Nat)} {sw : List Swt} {rt : Nat} {pr : List Ent} (stops : List Nat) (J : List AV → Sg → (Option AV → Sg → Prop) → (String → Sg → Prop) → Nat → KK) (F : Nat)
    (hret : (rt = 0 → ret = some .int) ∧ (rt = 1 → ret = some .boolean) ∧ (rt = 2 → ret = none) ∧ (rt = 3 → ∃ n, ret = some (.object n)))
    (hpr : ∀ q ∈ pr, decode b q.1 = .ok (dec sw q) ∧ okE q = true) (hF : ∀ a v, FT a = some v → FldOK y.cls a v) (hG : ∀ a k, GT a = some k → StaOK y.cls a k) (hC : ∀ a v, CT a = some v → StcOK y.cls fr lo a v) (hM : ∀ a k, GT a = some k → 300 ≤ k → 1 ≤ fr ∧ 26 ≤ lo) (hTh : ∀ q ∈ pr, q.2.1 = 55 → ThrOK y.cls b q ∧ 6 ≤ fr ∧ 89 ≤ lo)
    (hlen : ∀ av σ K kx, Sp av σ K kx → av.length ≤ nL)
    (ob1 : ∀ av σ K kx, okS av → Sp av σ K kx → wp (FT, GT, CT, sw, rt, mc, ms) K kx pr stops (fun pc L st σ' nc ns => ∃ n, J av σ K kx n pc L st σ' nc ns) F 0 (entL av nL) [] σ 0 0)
    (ob2 : ∀ av σ K kx n pc L st σ' nc ns, okS av → Sp av σ K kx → J av σ K kx n pc L st σ' nc ns → wp (FT, GT, CT, sw, rt, mc, ms) K kx pr stops (fun pc L st σ' nc ns => ∃ n', n' < n ∧ J av σ K kx n' pc L st σ' nc ns) F pc L st σ' nc ns) : Ctr y b nL ret fr lo mc ms Sp := by
  intro l D cA ad N0 av σ K kx hl0 hDD hok hSp
  refine xt_ofW (cc := b) (maxL := nL) (ret := ret) hy rfl ?_
  intro p e s m args below meth c s₁ B hml htab hv
  obtain ⟨rfl, hN, hP, hK, hST⟩ := hv
  have C : Cx p s m _ c b nL y.cls D cA ad (fun q => N0 ≤ q) := ⟨B.exec, B.bytes, hml, findClass_of_methodNamed B.named, fun w hw => atoms_spec (ws := Cond.code y b nL ret :: GWS) B.pre w (List.mem_cons_of_mem _ hw), hK, hDD, fun q h => Nat.le_trans hN h, hST⟩
  have hlocks := B.notSynchronized
  have hr := B.returns
  have hX : XO p l e (rmd fr lo mc ms) s m (av.map (cv ad)).toArray below meth c (xt_MQ below (QcC D cA ad N0 K kx) (av.map (cv ad)).toArray s mc ms (fun q => N0 ≤ q)) D cA ad (fun q => N0 ≤ q) kx := by
    intro E σ' H locs pc ls st q ce nc ns hx hP' hS' hce hcv hcl hnc hns
    exact xt_out (fun x hx => (htab x hx).elim) hlocks (fun t ht _ => ⟨Or.inr ⟨q, E, ce, σ', rfl, hx, by rw [ht]; exact hP', by rw [ht]; exact hce, hcv, hcl⟩, hS'.F ht⟩) (fun z hz => hS'.2.2 z hz) hnc hns
  have hC' : ∀ a v, CT a = some v → CalOK p l e (rmd fr lo mc ms) s m (av.map (cv ad)).toArray below meth c (xt_MQ below (QcC D cA ad N0 K kx) (av.map (cv ad)).toArray s mc ms (fun q => N0 ≤ q)) nL D cA ad (fun q => N0 ≤ q) b kx a v := fun a v h => cal_of C hN hl0 rfl rfl hX (hC a v h)
  have rI : RetI p l e (rmd fr lo mc ms) s m (av.map (cv ad)).toArray below meth c (xt_MQ below (QcC D cA ad N0 K kx) (av.map (cv ad)).toArray s mc ms (fun q => N0 ≤ q)) nL D cA ad (fun q => N0 ≤ q) b K rt mc ms := by
    intro pc L x σ' nc ns hdg hrt h1 h2 hΦ o1 o2 o3 H locs ls hP' hS' hl'
    refine W.widen (k := mc) (n := ms) h1 h2 ?_
    refine xt_ret ?_
    have hq : ∀ t : State, t.heap = H → s.WarmedH t.vm → QcC D cA ad N0 K kx (av.map (cv ad)).toArray s (.returned (some (.int (iI x)))) t := fun t ht _ => ⟨Or.inl ⟨some (.inl x), σ', rfl, trivial, hΦ, by rw [ht]; exact hP'⟩, hS'.F ht⟩
    rcases hrt with h | ⟨h, hx⟩
    · exact W.zret (v := iI x) (ty := .int) C.1 C.2.1 (hr.trans (hret.1 h)) rfl hq (fun q hq => hS'.2.2 q hq) hdg hlocks
    · exact W.zret (v := iI x) (ty := .boolean) C.1 C.2.1 (hr.trans (hret.2.1 h)) (narrow_b hx) hq (fun q hq => hS'.2.2 q hq) hdg hlocks
  have rV : RetV p l e (rmd fr lo mc ms) s m (av.map (cv ad)).toArray below meth c (xt_MQ below (QcC D cA ad N0 K kx) (av.map (cv ad)).toArray s mc ms (fun q => N0 ≤ q)) nL D cA ad (fun q => N0 ≤ q) b K rt mc ms := by
    intro pc L σ' nc ns hdg hrt h1 h2 hΦ o1 o2 o3 H locs ls hP' hS' hl'
    refine W.widen (k := mc) (n := ms) h1 h2 ?_
    refine xt_ret ?_
    exact W.vret C.1 C.2.1 (hr.trans (hret.2.2.1 hrt)) (fun t ht _ => ⟨Or.inl ⟨none, σ', rfl, trivial, hΦ, by rw [ht]; exact hP'⟩, hS'.F ht⟩) (fun q hq => hS'.2.2 q hq) hdg hlocks
  have rA : RetA p l e (rmd fr lo mc ms) s m (av.map (cv ad)).toArray below meth c (xt_MQ below (QcC D cA ad N0 K kx) (av.map (cv ad)).toArray s mc ms (fun q => N0 ≤ q)) nL D cA ad (fun q => N0 ≤ q) b K rt mc ms := by
    intro pc L x σ' nc ns hdg hrt h1 h2 hΦ o1 o2 o3 H locs ls hP' hS' hl'
    refine W.widen (k := mc) (n := ms) h1 h2 ?_
    refine xt_ret ?_
    obtain ⟨nm, hnm⟩ := hret.2.2.2 hrt
    exact W.aret (v := .ref (ad x)) C.1 C.2.1 (hr.trans hnm) (Or.inl ⟨nm, rfl⟩) (Or.inr ⟨_, rfl⟩) (fun t ht _ => ⟨Or.inl ⟨some (.inr x), σ', rfl, (okS_c o2).1, hΦ, by rw [ht]; exact hP'⟩, hS'.F ht⟩) (fun q hq => hS'.2.2 q hq) hdg hlocks
  have hR : (∀ a k, GT a = some k → 300 ≤ k → 1 ≤ (rmd fr lo mc ms).frames ∧ 26 ≤ (rmd fr lo mc ms).locals) ∧ mc ≤ (rmd fr lo mc ms).cells ∧ ms ≤ (rmd fr lo mc ms).slots := ⟨hM, Nat.le_refl _, Nat.le_refl _⟩
  have hT' : ∀ q ∈ pr, q.2.1 = 55 → ThrG p l e (rmd fr lo mc ms) s m (av.map (cv ad)).toArray below meth c (xt_MQ below (QcC D cA ad N0 K kx) (av.map (cv ad)).toArray s mc ms (fun q => N0 ≤ q)) nL D cA ad (fun q => N0 ≤ q) kx mc ms q := fun q hq h5 => by
    obtain ⟨z1, z2, z3⟩ := hTh q hq h5
    have hd := (hpr q hq).1
    obtain ⟨pc, op, a, b9, tg⟩ := q
    have h5 : op = 55 := h5
    subst h5
    exact thr_of C hl0 hd z1 htab hlocks z2 z3 (Nat.le_refl _) (Nat.le_refl _)
  have hJ : ∀ n pc L st σ' nc ns, J av σ K kx n pc L st σ' nc ns → GW p l e (rmd fr lo mc ms) s m (av.map (cv ad)).toArray below meth c (xt_MQ below (QcC D cA ad N0 K kx) (av.map (cv ad)).toArray s mc ms (fun q => N0 ≤ q)) nL D cA ad (fun q => N0 ≤ q) pc L st σ' nc ns := by
    intro n
    induction n using Nat.strongRecOn with
    | _ n ih =>
      intro pc L st σ' nc ns hj
      exact wp_sound C hF hG hC' hR rI rV rA hpr hT' (fun pc L st σ nc ns h => by obtain ⟨n', h1, h2⟩ := h; exact ih n' h1 pc L st σ nc ns h2) F pc L st σ' nc ns (ob2 av σ K kx n pc L st σ' nc ns hok hSp hj)
  have h0 := wp_sound C hF hG hC' hR rI rV rA hpr hT' (fun pc L st σ nc ns h => by obtain ⟨n, h⟩ := h; exact hJ n pc L st σ nc ns h) F 0 (entL av nL) [] σ 0 0 (ob1 av σ K kx hok hSp)
  have hle := hlen av σ K kx hSp
  have hlv := lv_entry (av.map (cv ad)) (n := nL) (by rw [sl_len]; exact hle)
  rw [lg_entry_eq]
  rw [← prs_ent ad (nL - av.length) av 0] at hlv
  refine h0 ?_ (fun _ h => nomatch h) ?_ s.heap [] _ hP va_S.rf hlv
  · intro v hv
    rcases List.mem_append.mp hv with h | h
    · obtain ⟨w, h1, h2⟩ := List.mem_map.mp h
      cases h2
      exact hok _ h1
    · have := List.eq_of_mem_replicate h
      cases this
  · show (av.map some ++ List.replicate (nL - av.length) none).length = nL
    rw [List.length_append, List.length_map, List.length_replicate]
    omega
end
section
abbrev PO : Type := Option AV → Sg → Prop
abbrev PX : Type := String → Sg → Prop
def sR (P : Pl → Sg → PO → PX → Prop) : CSp := fun av σ K kx => match av with
  | [.inr q0] => P q0 σ K kx
  | _ => False
theorem sR_inv {P : Pl → Sg → PO → PX → Prop} {av : List AV} {σ : Sg} {K : PO} {kx : PX} (h : sR P av σ K kx) : ∃ (q0 : Pl), av = [.inr q0] ∧ P q0 σ K kx := by
  rcases av with _ | ⟨q0 | q0, _ | ⟨z, av⟩⟩
  all_goals first | exact (h : False).elim | exact ⟨q0, rfl, h⟩
theorem sR_len {P : Pl → Sg → PO → PX → Prop} {av : List AV} {σ : Sg} {K : PO} {kx : PX} (h : sR P av σ K kx) : av.length = 1 := by
  obtain ⟨q0, e, -⟩ := sR_inv h
  rw [e]; rfl
def sRI (P : Pl → Int → Sg → PO → PX → Prop) : CSp := fun av σ K kx => match av with
  | [.inr q0, .inl x0] => P q0 x0 σ K kx
  | _ => False
theorem sRI_inv {P : Pl → Int → Sg → PO → PX → Prop} {av : List AV} {σ : Sg} {K : PO} {kx : PX} (h : sRI P av σ K kx) : ∃ (q0 : Pl) (x0 : Int), av = [.inr q0, .inl x0] ∧ P q0 x0 σ K kx := by
  rcases av with _ | ⟨q0 | q0, _ | ⟨x0 | x0, _ | ⟨z, av⟩⟩⟩
  all_goals first | exact (h : False).elim | exact ⟨q0, x0, rfl, h⟩
theorem sRI_len {P : Pl → Int → Sg → PO → PX → Prop} {av : List AV} {σ : Sg} {K : PO} {kx : PX} (h : sRI P av σ K kx) : av.length = 2 := by
  obtain ⟨q0, x0, e, -⟩ := sRI_inv h
  rw [e]; rfl
def sRII (P : Pl → Int → Int → Sg → PO → PX → Prop) : CSp := fun av σ K kx => match av with
  | [.inr q0, .inl x0, .inl x1] => P q0 x0 x1 σ K kx
  | _ => False
theorem sRII_inv {P : Pl → Int → Int → Sg → PO → PX → Prop} {av : List AV} {σ : Sg} {K : PO} {kx : PX} (h : sRII P av σ K kx) : ∃ (q0 : Pl) (x0 : Int) (x1 : Int), av = [.inr q0, .inl x0, .inl x1] ∧ P q0 x0 x1 σ K kx := by
  rcases av with _ | ⟨q0 | q0, _ | ⟨x0 | x0, _ | ⟨x1 | x1, _ | ⟨z, av⟩⟩⟩⟩
  all_goals first | exact (h : False).elim | exact ⟨q0, x0, x1, rfl, h⟩
theorem sRII_len {P : Pl → Int → Int → Sg → PO → PX → Prop} {av : List AV} {σ : Sg} {K : PO} {kx : PX} (h : sRII P av σ K kx) : av.length = 3 := by
  obtain ⟨q0, x0, x1, e, -⟩ := sRII_inv h
  rw [e]; rfl
def sRIII (P : Pl → Int → Int → Int → Sg → PO → PX → Prop) : CSp := fun av σ K kx => match av with
  | [.inr q0, .inl x0, .inl x1, .inl x2] => P q0 x0 x1 x2 σ K kx
  | _ => False
theorem sRIII_inv {P : Pl → Int → Int → Int → Sg → PO → PX → Prop} {av : List AV} {σ : Sg} {K : PO} {kx : PX} (h : sRIII P av σ K kx) : ∃ (q0 : Pl) (x0 : Int) (x1 : Int) (x2 : Int), av = [.inr q0, .inl x0, .inl x1, .inl x2] ∧ P q0 x0 x1 x2 σ K kx := by
  rcases av with _ | ⟨q0 | q0, _ | ⟨x0 | x0, _ | ⟨x1 | x1, _ | ⟨x2 | x2, _ | ⟨z, av⟩⟩⟩⟩⟩
  all_goals first | exact (h : False).elim | exact ⟨q0, x0, x1, x2, rfl, h⟩
theorem sRIII_len {P : Pl → Int → Int → Int → Sg → PO → PX → Prop} {av : List AV} {σ : Sg} {K : PO} {kx : PX} (h : sRIII P av σ K kx) : av.length = 4 := by
  obtain ⟨q0, x0, x1, x2, e, -⟩ := sRIII_inv h
  rw [e]; rfl
def sRIIII (P : Pl → Int → Int → Int → Int → Sg → PO → PX → Prop) : CSp := fun av σ K kx => match av with
  | [.inr q0, .inl x0, .inl x1, .inl x2, .inl x3] => P q0 x0 x1 x2 x3 σ K kx
  | _ => False
theorem sRIIII_inv {P : Pl → Int → Int → Int → Int → Sg → PO → PX → Prop} {av : List AV} {σ : Sg} {K : PO} {kx : PX} (h : sRIIII P av σ K kx) : ∃ (q0 : Pl) (x0 : Int) (x1 : Int) (x2 : Int) (x3 : Int), av = [.inr q0, .inl x0, .inl x1, .inl x2, .inl x3] ∧ P q0 x0 x1 x2 x3 σ K kx := by
  rcases av with _ | ⟨q0 | q0, _ | ⟨x0 | x0, _ | ⟨x1 | x1, _ | ⟨x2 | x2, _ | ⟨x3 | x3, _ | ⟨z, av⟩⟩⟩⟩⟩⟩
  all_goals first | exact (h : False).elim | exact ⟨q0, x0, x1, x2, x3, rfl, h⟩
theorem sRIIII_len {P : Pl → Int → Int → Int → Int → Sg → PO → PX → Prop} {av : List AV} {σ : Sg} {K : PO} {kx : PX} (h : sRIIII P av σ K kx) : av.length = 5 := by
  obtain ⟨q0, x0, x1, x2, x3, e, -⟩ := sRIIII_inv h
  rw [e]; rfl
def sRIIIII (P : Pl → Int → Int → Int → Int → Int → Sg → PO → PX → Prop) : CSp := fun av σ K kx => match av with
  | [.inr q0, .inl x0, .inl x1, .inl x2, .inl x3, .inl x4] => P q0 x0 x1 x2 x3 x4 σ K kx
  | _ => False
theorem sRIIIII_inv {P : Pl → Int → Int → Int → Int → Int → Sg → PO → PX → Prop} {av : List AV} {σ : Sg} {K : PO} {kx : PX} (h : sRIIIII P av σ K kx) : ∃ (q0 : Pl) (x0 : Int) (x1 : Int) (x2 : Int) (x3 : Int) (x4 : Int), av = [.inr q0, .inl x0, .inl x1, .inl x2, .inl x3, .inl x4] ∧ P q0 x0 x1 x2 x3 x4 σ K kx := by
  rcases av with _ | ⟨q0 | q0, _ | ⟨x0 | x0, _ | ⟨x1 | x1, _ | ⟨x2 | x2, _ | ⟨x3 | x3, _ | ⟨x4 | x4, _ | ⟨z, av⟩⟩⟩⟩⟩⟩⟩
  all_goals first | exact (h : False).elim | exact ⟨q0, x0, x1, x2, x3, x4, rfl, h⟩
theorem sRIIIII_len {P : Pl → Int → Int → Int → Int → Int → Sg → PO → PX → Prop} {av : List AV} {σ : Sg} {K : PO} {kx : PX} (h : sRIIIII P av σ K kx) : av.length = 6 := by
  obtain ⟨q0, x0, x1, x2, x3, x4, e, -⟩ := sRIIIII_inv h
  rw [e]; rfl
def sRIIIIII (P : Pl → Int → Int → Int → Int → Int → Int → Sg → PO → PX → Prop) : CSp := fun av σ K kx => match av with
  | [.inr q0, .inl x0, .inl x1, .inl x2, .inl x3, .inl x4, .inl x5] => P q0 x0 x1 x2 x3 x4 x5 σ K kx
  | _ => False
theorem sRIIIIII_inv {P : Pl → Int → Int → Int → Int → Int → Int → Sg → PO → PX → Prop} {av : List AV} {σ : Sg} {K : PO} {kx : PX} (h : sRIIIIII P av σ K kx) : ∃ (q0 : Pl) (x0 : Int) (x1 : Int) (x2 : Int) (x3 : Int) (x4 : Int) (x5 : Int), av = [.inr q0, .inl x0, .inl x1, .inl x2, .inl x3, .inl x4, .inl x5] ∧ P q0 x0 x1 x2 x3 x4 x5 σ K kx := by
  rcases av with _ | ⟨q0 | q0, _ | ⟨x0 | x0, _ | ⟨x1 | x1, _ | ⟨x2 | x2, _ | ⟨x3 | x3, _ | ⟨x4 | x4, _ | ⟨x5 | x5, _ | ⟨z, av⟩⟩⟩⟩⟩⟩⟩⟩
  all_goals first | exact (h : False).elim | exact ⟨q0, x0, x1, x2, x3, x4, x5, rfl, h⟩
theorem sRIIIIII_len {P : Pl → Int → Int → Int → Int → Int → Int → Sg → PO → PX → Prop} {av : List AV} {σ : Sg} {K : PO} {kx : PX} (h : sRIIIIII P av σ K kx) : av.length = 7 := by
  obtain ⟨q0, x0, x1, x2, x3, x4, x5, e, -⟩ := sRIIIIII_inv h
  rw [e]; rfl
def sRR (P : Pl → Pl → Sg → PO → PX → Prop) : CSp := fun av σ K kx => match av with
  | [.inr q0, .inr q1] => P q0 q1 σ K kx
  | _ => False
theorem sRR_inv {P : Pl → Pl → Sg → PO → PX → Prop} {av : List AV} {σ : Sg} {K : PO} {kx : PX} (h : sRR P av σ K kx) : ∃ (q0 : Pl) (q1 : Pl), av = [.inr q0, .inr q1] ∧ P q0 q1 σ K kx := by
  rcases av with _ | ⟨q0 | q0, _ | ⟨q1 | q1, _ | ⟨z, av⟩⟩⟩
  all_goals first | exact (h : False).elim | exact ⟨q0, q1, rfl, h⟩
theorem sRR_len {P : Pl → Pl → Sg → PO → PX → Prop} {av : List AV} {σ : Sg} {K : PO} {kx : PX} (h : sRR P av σ K kx) : av.length = 2 := by
  obtain ⟨q0, q1, e, -⟩ := sRR_inv h
  rw [e]; rfl
def sRRI (P : Pl → Pl → Int → Sg → PO → PX → Prop) : CSp := fun av σ K kx => match av with
  | [.inr q0, .inr q1, .inl x0] => P q0 q1 x0 σ K kx
  | _ => False
theorem sRRI_inv {P : Pl → Pl → Int → Sg → PO → PX → Prop} {av : List AV} {σ : Sg} {K : PO} {kx : PX} (h : sRRI P av σ K kx) : ∃ (q0 : Pl) (q1 : Pl) (x0 : Int), av = [.inr q0, .inr q1, .inl x0] ∧ P q0 q1 x0 σ K kx := by
  rcases av with _ | ⟨q0 | q0, _ | ⟨q1 | q1, _ | ⟨x0 | x0, _ | ⟨z, av⟩⟩⟩⟩
  all_goals first | exact (h : False).elim | exact ⟨q0, q1, x0, rfl, h⟩
theorem sRRI_len {P : Pl → Pl → Int → Sg → PO → PX → Prop} {av : List AV} {σ : Sg} {K : PO} {kx : PX} (h : sRRI P av σ K kx) : av.length = 3 := by
  obtain ⟨q0, q1, x0, e, -⟩ := sRRI_inv h
  rw [e]; rfl
def sI (P : Int → Sg → PO → PX → Prop) : CSp := fun av σ K kx => match av with
  | [.inl x0] => P x0 σ K kx
  | _ => False
theorem sI_inv {P : Int → Sg → PO → PX → Prop} {av : List AV} {σ : Sg} {K : PO} {kx : PX} (h : sI P av σ K kx) : ∃ (x0 : Int), av = [.inl x0] ∧ P x0 σ K kx := by
  rcases av with _ | ⟨x0 | x0, _ | ⟨z, av⟩⟩
  all_goals first | exact (h : False).elim | exact ⟨x0, rfl, h⟩
theorem sI_len {P : Int → Sg → PO → PX → Prop} {av : List AV} {σ : Sg} {K : PO} {kx : PX} (h : sI P av σ K kx) : av.length = 1 := by
  obtain ⟨x0, e, -⟩ := sI_inv h
  rw [e]; rfl
def sII (P : Int → Int → Sg → PO → PX → Prop) : CSp := fun av σ K kx => match av with
  | [.inl x0, .inl x1] => P x0 x1 σ K kx
  | _ => False
theorem sII_inv {P : Int → Int → Sg → PO → PX → Prop} {av : List AV} {σ : Sg} {K : PO} {kx : PX} (h : sII P av σ K kx) : ∃ (x0 : Int) (x1 : Int), av = [.inl x0, .inl x1] ∧ P x0 x1 σ K kx := by
  rcases av with _ | ⟨x0 | x0, _ | ⟨x1 | x1, _ | ⟨z, av⟩⟩⟩
  all_goals first | exact (h : False).elim | exact ⟨x0, x1, rfl, h⟩
theorem sII_len {P : Int → Int → Sg → PO → PX → Prop} {av : List AV} {σ : Sg} {K : PO} {kx : PX} (h : sII P av σ K kx) : av.length = 2 := by
  obtain ⟨x0, x1, e, -⟩ := sII_inv h
  rw [e]; rfl
def sIII (P : Int → Int → Int → Sg → PO → PX → Prop) : CSp := fun av σ K kx => match av with
  | [.inl x0, .inl x1, .inl x2] => P x0 x1 x2 σ K kx
  | _ => False
theorem sIII_inv {P : Int → Int → Int → Sg → PO → PX → Prop} {av : List AV} {σ : Sg} {K : PO} {kx : PX} (h : sIII P av σ K kx) : ∃ (x0 : Int) (x1 : Int) (x2 : Int), av = [.inl x0, .inl x1, .inl x2] ∧ P x0 x1 x2 σ K kx := by
  rcases av with _ | ⟨x0 | x0, _ | ⟨x1 | x1, _ | ⟨x2 | x2, _ | ⟨z, av⟩⟩⟩⟩
  all_goals first | exact (h : False).elim | exact ⟨x0, x1, x2, rfl, h⟩
theorem sIII_len {P : Int → Int → Int → Sg → PO → PX → Prop} {av : List AV} {σ : Sg} {K : PO} {kx : PX} (h : sIII P av σ K kx) : av.length = 3 := by
  obtain ⟨x0, x1, x2, e, -⟩ := sIII_inv h
  rw [e]; rfl

/-- the range of a slot -/
def rg (k j : Nat) (x : Int) : Prop := match k with
  | 3 => match j with
    | 1 => 0 ≤ x ∧ x ≤ 239
    | 2 => 0 ≤ x ∧ x ≤ 240
    | _ => True
  | 4 => 0 ≤ x ∧ x ≤ 255
  | 7 => match j with
    | 10 => 0 ≤ x ∧ x ≤ 7
    | 11 => 0 ≤ x ∧ x ≤ 255
    | _ => True
  | 8 => match j with
    | 1 => 0 ≤ x ∧ x ≤ 44
    | _ => True
  | 9 => 0 ≤ x ∧ x ≤ 255
  | 10 => match j with
    | 2 => 0 ≤ x ∧ x ≤ 5
    | _ => True
  | 28 => match j with
    | 2 => 0 ≤ x ∧ x ≤ 5
    | _ => True
  | 35 => match j with
    | 2 => 0 ≤ x ∧ x ≤ 5
    | _ => True
  | 13 => match j with
    | 3 => 0 ≤ x ∧ x ≤ 76
    | _ => True
  | 14 => match j with
    | 3 => 0 ≤ x ∧ x ≤ 8
    | _ => True
  | 18 => match j with
    | 3 => 0 ≤ x ∧ x ≤ 8
    | _ => True
  | 24 => match j with
    | 3 => 0 ≤ x ∧ x ≤ 8
    | _ => True
  | 22 => 0 ≤ x ∧ x ≤ 255
  | 100 => match j with
    | 20 => 0 ≤ x ∧ x ≤ 7
    | 30 => 0 ≤ x ∧ x ≤ 120
    | 31 => 0 ≤ x ∧ x ≤ 5
    | 34 => 0 ≤ x ∧ x ≤ 50
    | 35 => 0 ≤ x ∧ x ≤ 255
    | _ => True
  | 101 => 0 ≤ x ∧ x ≤ 255
  | 102 => 0 ≤ x ∧ x ≤ 6
  | 103 => 0 ≤ x ∧ x ≤ 5
  | 104 => (0 ≤ x ∧ x ≤ 255) ∧ (2 ≤ j % 14 ∨ x ≤ 6)
  | 105 => 0 ≤ x ∧ x ≤ 10
  | 106 => 0 ≤ x ∧ x ≤ 60
  | 107 => (0 ≤ x ∧ x ≤ 255) ∧ (2 ≤ j % 14 ∨ x ≤ 6)
  | 108 => 0 ≤ x ∧ x ≤ 240
  | 109 => 0 ≤ x ∧ x ≤ 255
  | 110 => 0 ≤ x ∧ x ≤ 44
  | 111 => 0 ≤ x ∧ x ≤ 255
  | 113 => (0 ≤ x ∧ x ≤ 255) ∧ (1 ≤ j % 3 ∨ x ≤ 6)
  | 119 => 0 ≤ x ∧ x ≤ 255
  | 121 => 0 ≤ x ∧ x ≤ 4
  | 126 => 0 ≤ x ∧ x ≤ 5
  | 127 => 2 ≤ j % 14 ∨ (0 ≤ x ∧ x ≤ 6)
  | 128 => (0 ≤ x ∧ x ≤ 255) ∧ (2 ≤ j % 14 ∨ x ≤ 6)
  | 129 => 0 ≤ x ∧ x ≤ 255
  | 132 => (0 ≤ x ∧ x ≤ 255) ∧ (2 ≤ j % 14 ∨ x ≤ 6)
  | 133 => (0 ≤ x ∧ x ≤ 255) ∧ (2 ≤ j % 14 ∨ x ≤ 6 ∨ 140 ≤ j) ∧ (x ≤ 10 ∨ ¬ j = 140) ∧ (x ≤ 60 ∨ ¬ j = 141)
  | 34 => 0 ≤ x ∧ x ≤ 60
  | _ => True
def IV (σ : Sg) : Prop := ∀ k e i j, rg k j (σ k e i j)
/-- nothing but the kinds ks has changed -/
def Un (ks : List Nat) (σ σ' : Sg) : Prop := ∀ k e i j, elemN ks k = false → σ' k e i j = σ k e i j
theorem IV_upd {σ : Sg} {k e i j : Nat} {v : Int} (h : IV σ) (hv : rg k j v) : IV (upd4 σ k e i j v) := by
  intro k' e' i' j'
  by_cases hc : k' = k ∧ e' = e ∧ i' = i ∧ j' = j
  · obtain ⟨rfl, rfl, rfl, rfl⟩ := hc
    rw [upd4_at]; exact hv
  · simp only [upd4, hc, if_false]; exact h _ _ _ _
theorem IV_cpy {σ : Sg} {ks es is sp kd ed i9 dp n : Nat} (h : IV σ) (hv : ∀ j j' x, rg ks j x → rg kd j' x) : IV (cpy4 σ ks es is sp kd ed i9 dp n) := by
  intro k' e' i' j'
  by_cases hc : (k' = kd ∧ e' = ed ∧ i' = i9) ∧ dp ≤ j' ∧ j' < dp + n
  · have hk : k' = kd := hc.1.1
    simp only [cpy4, hc, and_self, if_true]; rw [← hk] at hv; exact hk ▸ hv _ _ _ (h _ _ _ _)
  · simp only [cpy4, hc, if_false]; exact h _ _ _ _
theorem Un_rf {ks : List Nat} {σ : Sg} : Un ks σ σ := fun _ _ _ _ _ => rfl
theorem Un_upd {ks : List Nat} {σ σ' : Sg} {k e i j : Nat} {v : Int} (hk : elemN ks k = true) (h : Un ks σ σ') : Un ks σ (upd4 σ' k e i j v) := by
  intro k' e' i' j' hn
  by_cases hc : k' = k ∧ e' = e ∧ i' = i ∧ j' = j
  · obtain ⟨rfl, -⟩ := hc
    rw [hk] at hn; cases hn
  · simp only [upd4, hc, if_false]; exact h _ _ _ _ hn
theorem Un_cpy {ks : List Nat} {σ σ' : Sg} {k0 es is sp kd ed id dp n : Nat} (hk : elemN ks kd = true) (h : Un ks σ σ') : Un ks σ (cpy4 σ' k0 es is sp kd ed id dp n) := by
  intro k' e' i' j' hn
  by_cases hc : (k' = kd ∧ e' = ed ∧ i' = id) ∧ dp ≤ j' ∧ j' < dp + n
  · obtain ⟨⟨rfl, -, -⟩, -⟩ := hc
    rw [hk] at hn; cases hn
  · simp only [cpy4, hc, if_false]; exact h _ _ _ _ hn
theorem elemN_sub {ks ks' : List Nat} (hs : ks.all (elemN ks') = true) : ∀ k, elemN ks' k = false → elemN ks k = false := by
  intro k h
  induction ks with
  | nil => rfl
  | cons a r ih =>
    rw [List.all_cons, Bool.and_eq_true] at hs
    unfold elemN
    rcases hb : Nat.beq a k with _ | _
    · exact ih hs.2
    · have := Nat.eq_of_beq_eq_true hb
      subst this
      rw [hs.1] at h; cases h
theorem Un_tr {ks ks' : List Nat} {σ σ1 σ2 : Sg} (h : Un ks σ σ1) (h2 : Un ks' σ1 σ2) (hs : ks'.all (elemN ks) = true) : Un ks σ σ2 := fun k e i j hn => (h2 k e i j (elemN_sub hs k hn)).trans (h k e i j hn)
theorem Un_wk {ks ks' : List Nat} {σ σ1 : Sg} (h : Un ks' σ σ1) (hs : ks'.all (elemN ks) = true) : Un ks σ σ1 := fun k e i j hn => h k e i j (elemN_sub hs k hn)
end
section
/-- how many letters a text has -/
def tlF (x : Int) : Nat → Int → Int
  | 0, l => l
  | n + 1, l => if nrm (isr x (5 * l)) = 0 then l else tlF x n (l + 1)
def tl (x : Int) : Int := tlF x 6 0
def strm (x : Int) : Prop := 1 ≤ nrm x ∧ nrm x ≤ 13 ∧ nrm x % 2 = 1
def by8 (x : Int) : Prop := 0 ≤ x ∧ x ≤ 255
def kF (k : Nat) : Prop := k = 10 ∨ k = 28 ∨ k = 35
def kT (k : Nat) : Prop := k = 14 ∨ k = 18 ∨ k = 24
abbrev xIAE : String := exn 1
abbrev xNSE : String := exn 2
abbrev xUOE : String := exn 3
abbrev xISE : String := exn 4
theorem bv_le {x : BitVec 32} {n : Nat} (h : x.toNat < 2 ^ n) (hn : n ≤ 31) : 0 ≤ x.toInt ∧ x.toInt < 2 ^ n := by
  have h1 : 2 ^ n ≤ 2 ^ 31 := Nat.pow_le_pow_right (by decide) hn
  have h2 : x.toInt = x.toNat := by
    rw [BitVec.toInt_eq_toNat_cond, if_pos (by omega)]
  rw [h2]
  refine ⟨by omega, ?_⟩
  exact_mod_cast h
theorem iI_bv {a : Int} (h0 : 0 ≤ a) (h1 : a ≤ 2147483647) : (iI a).toBitVec.toNat = a.toNat := by
  have h2 : (iI a).toInt = a := by rw [iI_toInt, nrm_id (by omega) h1]
  have h3 : (iI a).toBitVec.toInt = a := h2
  rw [BitVec.toInt_eq_toNat_cond] at h3
  split at h3 <;> omega
theorem ixr_by8 {a b : Int} (ha : by8 a) (hb : by8 b) : by8 (ixr a b) := by
  obtain ⟨a0, a1⟩ := ha
  obtain ⟨b0, b1⟩ := hb
  have h1 : (iI a).toBitVec.toNat < 2 ^ 8 := by rw [iI_bv a0 (by omega)]; omega
  have h2 : (iI b).toBitVec.toNat < 2 ^ 8 := by rw [iI_bv b0 (by omega)]; omega
  have h3 : ((iI a).toBitVec ^^^ (iI b).toBitVec).toNat < 2 ^ 8 := by
    rw [BitVec.toNat_xor]
    exact Nat.xor_lt_two_pow h1 h2
  have h4 := bv_le h3 (by decide)
  have h5 : ixr a b = ((iI a).toBitVec ^^^ (iI b).toBitVec).toInt := rfl
  unfold by8
  rw [h5]
  omega
theorem ian_31 (a : Int) : 0 ≤ ian a 31 ∧ ian a 31 ≤ 31 := by
  have h2 : (iI 31).toBitVec.toNat < 2 ^ 5 := by decide
  have h3 : ((iI a).toBitVec &&& (iI 31).toBitVec).toNat < 2 ^ 5 := by
    rw [BitVec.toNat_and]
    exact Nat.and_lt_two_pow _ h2
  have h4 := bv_le h3 (by decide)
  have h5 : ian a 31 = ((iI a).toBitVec &&& (iI 31).toBitVec).toInt := rfl
  rw [h5]
  omega
theorem wg_FrameStreams : ∀ w ∈ u_ws R_FrameStreams T_FrameStreams 2, w ∈ GWS := by decide +kernel
theorem fl_FrameStreams (own : String) (a j ty : Nat) (hj : j < 2) (hl : Cond.fieldLink own a (T_FrameStreams j).1 (T_FrameStreams j).2.1 (T_FrameStreams j).2.2.1 ∈ GWS) (ht : (ty = 0 → (T_FrameStreams j).2.2.2 = false ∧ ty_FrameStreams j = .int) ∧ (ty = 1 → (T_FrameStreams j).2.2.2 = false ∧ ty_FrameStreams j = .boolean)) : FldOK own a (0, j, ty) :=
  ⟨R_FrameStreams, T_FrameStreams, 2, ty_FrameStreams, rfl, wg_FrameStreams, hj, hl, tk_FrameStreams, nm_FrameStreams, ht.1, ht.2⟩
theorem wg_BlockReader : ∀ w ∈ u_ws R_BlockReader T_BlockReader 6, w ∈ GWS := by decide +kernel
theorem fl_BlockReader (own : String) (a j ty : Nat) (hj : j < 6) (hl : Cond.fieldLink own a (T_BlockReader j).1 (T_BlockReader j).2.1 (T_BlockReader j).2.2.1 ∈ GWS) (ht : (ty = 0 → (T_BlockReader j).2.2.2 = false ∧ ty_BlockReader j = .int) ∧ (ty = 1 → (T_BlockReader j).2.2.2 = false ∧ ty_BlockReader j = .boolean)) : FldOK own a (1, j, ty) :=
  ⟨R_BlockReader, T_BlockReader, 6, ty_BlockReader, rfl, wg_BlockReader, hj, hl, tk_BlockReader, nm_BlockReader, ht.1, ht.2⟩
theorem wg_BlockWriter : ∀ w ∈ u_ws R_BlockWriter T_BlockWriter 4, w ∈ GWS := by decide +kernel
theorem fl_BlockWriter (own : String) (a j ty : Nat) (hj : j < 4) (hl : Cond.fieldLink own a (T_BlockWriter j).1 (T_BlockWriter j).2.1 (T_BlockWriter j).2.2.1 ∈ GWS) (ht : (ty = 0 → (T_BlockWriter j).2.2.2 = false ∧ ty_BlockWriter j = .int) ∧ (ty = 1 → (T_BlockWriter j).2.2.2 = false ∧ ty_BlockWriter j = .boolean)) : FldOK own a (2, j, ty) :=
  ⟨R_BlockWriter, T_BlockWriter, 4, ty_BlockWriter, rfl, wg_BlockWriter, hj, hl, tk_BlockWriter, nm_BlockWriter, ht.1, ht.2⟩
theorem wg_End : ∀ w ∈ u_ws R_End T_End 15, w ∈ GWS := by decide +kernel
theorem fl_End (own : String) (a j ty : Nat) (hj : j < 15) (hl : Cond.fieldLink own a (T_End j).1 (T_End j).2.1 (T_End j).2.2.1 ∈ GWS) (ht : (ty = 0 → (T_End j).2.2.2 = false ∧ ty_End j = .int) ∧ (ty = 1 → (T_End j).2.2.2 = false ∧ ty_End j = .boolean)) : FldOK own a (3, j, ty) :=
  ⟨R_End, T_End, 15, ty_End, rfl, wg_End, hj, hl, tk_End, nm_End, ht.1, ht.2⟩
theorem wg_Fields : ∀ w ∈ u_ws R_Fields T_Fields 3, w ∈ GWS := by decide +kernel
theorem fl_Fields (own : String) (a j ty : Nat) (hj : j < 3) (hl : Cond.fieldLink own a (T_Fields j).1 (T_Fields j).2.1 (T_Fields j).2.2.1 ∈ GWS) (ht : (ty = 0 → (T_Fields j).2.2.2 = false ∧ ty_Fields j = .int) ∧ (ty = 1 → (T_Fields j).2.2.2 = false ∧ ty_Fields j = .boolean)) : FldOK own a (4, j, ty) :=
  ⟨R_Fields, T_Fields, 3, ty_Fields, rfl, wg_Fields, hj, hl, tk_Fields, nm_Fields, ht.1, ht.2⟩
theorem wg_Frame : ∀ w ∈ u_ws R_Frame T_Frame 2, w ∈ GWS := by decide +kernel
theorem fl_Frame (own : String) (a j ty : Nat) (hj : j < 2) (hl : Cond.fieldLink own a (T_Frame j).1 (T_Frame j).2.1 (T_Frame j).2.2.1 ∈ GWS) (ht : (ty = 0 → (T_Frame j).2.2.2 = false ∧ ty_Frame j = .int) ∧ (ty = 1 → (T_Frame j).2.2.2 = false ∧ ty_Frame j = .boolean)) : FldOK own a (5, j, ty) :=
  ⟨R_Frame, T_Frame, 2, ty_Frame, rfl, wg_Frame, hj, hl, tk_Frame, nm_Frame, ht.1, ht.2⟩
theorem wg_Stream : ∀ w ∈ u_ws R_Stream T_Stream 6, w ∈ GWS := by decide +kernel
theorem fl_Stream (own : String) (a j ty : Nat) (hj : j < 6) (hl : Cond.fieldLink own a (T_Stream j).1 (T_Stream j).2.1 (T_Stream j).2.2.1 ∈ GWS) (ht : (ty = 0 → (T_Stream j).2.2.2 = false ∧ ty_Stream j = .int) ∧ (ty = 1 → (T_Stream j).2.2.2 = false ∧ ty_Stream j = .boolean)) : FldOK own a (6, j, ty) :=
  ⟨R_Stream, T_Stream, 6, ty_Stream, rfl, wg_Stream, hj, hl, tk_Stream, nm_Stream, ht.1, ht.2⟩
theorem wg_Table : ∀ w ∈ u_ws R_Table T_Table 6, w ∈ GWS := by decide +kernel
theorem fl_Table (own : String) (a j ty : Nat) (hj : j < 6) (hl : Cond.fieldLink own a (T_Table j).1 (T_Table j).2.1 (T_Table j).2.2.1 ∈ GWS) (ht : (ty = 0 → (T_Table j).2.2.2 = false ∧ ty_Table j = .int) ∧ (ty = 1 → (T_Table j).2.2.2 = false ∧ ty_Table j = .boolean)) : FldOK own a (7, j, ty) :=
  ⟨R_Table, T_Table, 6, ty_Table, rfl, wg_Table, hj, hl, tk_Table, nm_Table, ht.1, ht.2⟩
theorem wg_Wire : ∀ w ∈ u_ws R_Wire T_Wire 3, w ∈ GWS := by decide +kernel
theorem fl_Wire (own : String) (a j ty : Nat) (hj : j < 3) (hl : Cond.fieldLink own a (T_Wire j).1 (T_Wire j).2.1 (T_Wire j).2.2.1 ∈ GWS) (ht : (ty = 0 → (T_Wire j).2.2.2 = false ∧ ty_Wire j = .int) ∧ (ty = 1 → (T_Wire j).2.2.2 = false ∧ ty_Wire j = .boolean)) : FldOK own a (8, j, ty) :=
  ⟨R_Wire, T_Wire, 3, ty_Wire, rfl, wg_Wire, hj, hl, tk_Wire, nm_Wire, ht.1, ht.2⟩
def ft_Letters (a : Nat) : Option (Nat × Nat × Nat) := match a with
  | _ => none
theorem fo_Letters : ∀ a v, ft_Letters a = some v → FldOK R_Letters a v := by
  intro a v h
  unfold ft_Letters at h
  cases h
def gt_Letters_length (a : Nat) : Option Nat := match a with
  | _ => none
theorem go_Letters_length : ∀ a v, gt_Letters_length a = some v → StaOK R_Letters a v := by
  intro a v h
  unfold gt_Letters_length at h
  cases h
def pr_Letters_length : List Ent := [(0, 0, 0, 0, 0), (1, 7, 1, 0, 0), (2, 3, 1, 0, 0), (3, 1, 0, 6, 0), (5, 35, 0, 0, 22), (8, 3, 0, 0, 0), (9, 0, 0, 5, 0), (10, 3, 1, 0, 0), (11, 14, 0, 0, 0), (12, 22, 0, 0, 0), (13, 26, 0, 0, 22), (16, 11, 1, 1, 0), (19, 38, 0, 0, 2), (22, 3, 1, 0, 0), (23, 48, 0, 0, 0)]
def sw_Letters_length : List Swt := []
theorem dk_Letters_length : ∀ q ∈ pr_Letters_length, decode b_Letters_length q.1 = .ok (dec sw_Letters_length q) ∧ okE q = true := by decide +kernel
theorem nt_Letters_length : ∀ q ∈ pr_Letters_length, ¬ q.2.1 = 55 := by decide +kernel
def ct_Letters_length (a : Nat) : Option (Nat × Nat × CSp × Nat × Nat) := match a with
  | _ => none
theorem co_Letters_length : ∀ a v, ct_Letters_length a = some v → StcOK R_Letters 0 0 a v := by
  intro a v h
  unfold ct_Letters_length at h
  cases h
/-- Letters_length -/
def sp_Letters_length : CSp := sI (fun x0 σ K _ => K (some (.inl (tl x0))) σ)
set_option maxHeartbeats 4000000 in
set_option maxRecDepth 100000 in
theorem c_Letters_length : Ctr y_Letters_length b_Letters_length 2 (some .int) 0 0 0 0 sp_Letters_length := by
  refine ctr_of (FT := ft_Letters) (GT := gt_Letters_length) (CT := ct_Letters_length) (sw := sw_Letters_length) (rt := 0) (pr := pr_Letters_length) (by decide) [2] (fun av σ _ _ n pc L st σ' nc ns => ∃ x l, av = [.inl x] ∧ pc = 2 ∧ L = [some (.inl x), some (.inl l)] ∧ st = [] ∧ σ' = σ ∧ nc = 0 ∧ ns = 0 ∧ 0 ≤ l ∧ l ≤ 6 ∧ n = (6 - l).toNat ∧ tl x = tlF x n l) 30 ⟨fun _ => rfl, fun h => absurd h (by decide), fun h => absurd h (by decide), fun h => absurd h (by decide)⟩ dk_Letters_length fo_Letters go_Letters_length co_Letters_length (fun a k h hk => by unfold gt_Letters_length at h; cases h) (fun q hq h => absurd h (nt_Letters_length q hq)) (fun av σ K kx h => by rw [sI_len h]; decide) ?_ ?_
  · intro av σ K kx hok hSp
    obtain ⟨x0, rfl, hp⟩ := sI_inv hSp
    exact ⟨6, x0, 0, rfl, rfl, rfl, rfl, rfl, rfl, rfl, by omega, by omega, rfl, rfl⟩
  · intro av σ K kx n pc L st σ' nc ns hok hSp hJ
    obtain ⟨x, l, rfl, rfl, rfl, rfl, rfl, rfl, rfl, h0, h6, hn, ht⟩ := hJ
    have hp : K (some (.inl (tl x))) σ' := hSp
    have hl : nrm l = l := nrm_id (by omega) (by omega)
    refine And.intro (fun h => ?_) (fun h => And.intro (fun h2 => ?_) (fun h2 => ?_))
    · have h9 : (6 : Int) ≤ nrm l := h
      have h8 : n = 0 := by omega
      subst h8
      rw [ht] at hp
      exact hp
    · have h9 : nrm l < 6 := h
      obtain ⟨m, rfl⟩ : ∃ m, n = m + 1 := ⟨n - 1, by omega⟩
      have h8 : tlF x (m + 1) l = l := by
        show (if nrm (isr x (5 * l)) = 0 then l else tlF x m (l + 1)) = l
        rw [if_pos h2]
      rw [ht, h8] at hp
      exact hp
    · have h9 : nrm l < 6 := h
      obtain ⟨m, rfl⟩ : ∃ m, n = m + 1 := ⟨n - 1, by omega⟩
      refine ⟨m, Nat.lt_succ_self m, x, l + 1, rfl, rfl, rfl, rfl, rfl, rfl, rfl, by omega, by omega, by omega, ?_⟩
      rw [ht]
      show (if nrm (isr x (5 * l)) = 0 then l else tlF x m (l + 1)) = _
      rw [if_neg h2]
def gt_Letters_append (a : Nat) : Option Nat := match a with
  | _ => none
theorem go_Letters_append : ∀ a v, gt_Letters_append a = some v → StaOK R_Letters a v := by
  intro a v h
  unfold gt_Letters_append at h
  cases h
def pr_Letters_append : List Ent := [(0, 3, 0, 0, 0), (1, 3, 1, 0, 0), (2, 1, 0, 97, 0), (4, 13, 0, 0, 0), (5, 0, 0, 1, 0), (6, 12, 0, 0, 0), (7, 0, 0, 5, 0), (8, 3, 0, 0, 0), (9, 47, 11, 0, 0), (12, 14, 0, 0, 0), (13, 21, 0, 0, 0), (14, 19, 0, 0, 0), (15, 48, 0, 0, 0)]
def sw_Letters_append : List Swt := []
theorem dk_Letters_append : ∀ q ∈ pr_Letters_append, decode b_Letters_append q.1 = .ok (dec sw_Letters_append q) ∧ okE q = true := by decide +kernel
theorem nt_Letters_append : ∀ q ∈ pr_Letters_append, ¬ q.2.1 = 55 := by decide +kernel
def ct_Letters_append (a : Nat) : Option (Nat × Nat × CSp × Nat × Nat) := match a with
  | 11 => some (1, 1000, sp_Letters_length, 0, 0)
  | _ => none
theorem co_Letters_append : ∀ a v, ct_Letters_append a = some v → StcOK R_Letters 1 21 a v := by
  intro a v h
  unfold ct_Letters_append at h
  split at h
  · cases h; exact ⟨y_Letters_length, b_Letters_length, 2, (some .int), 0, 0, 1, c_Letters_length, by decide, by decide +kernel, by decide +kernel, by decide +kernel, (by first | exact Or.inr (Or.inl ⟨rfl, rfl, by decide +kernel, by decide +kernel⟩) | exact Or.inr (Or.inr ⟨rfl, rfl, ⟨"FrameStreams", by decide +kernel⟩, by decide +kernel⟩))⟩
  · cases h
/-- Letters_append -/
def sp_Letters_append : CSp := sII (fun x0 x1 σ K _ => K (some (.inl (ior x0 (isl (x1 - 97 + 1) (5 * tl x0))))) σ)
set_option maxHeartbeats 4000000 in
set_option maxRecDepth 100000 in
theorem c_Letters_append : Ctr y_Letters_append b_Letters_append 2 (some .int) 1 21 0 0 sp_Letters_append := by
  refine ctr_of (FT := ft_Letters) (GT := gt_Letters_append) (CT := ct_Letters_append) (sw := sw_Letters_append) (rt := 0) (pr := pr_Letters_append) (by decide) [] (fun _ _ _ _ _ _ _ _ _ _ _ => False) 30 ⟨fun _ => rfl, fun h => absurd h (by decide), fun h => absurd h (by decide), fun h => absurd h (by decide)⟩ dk_Letters_append fo_Letters go_Letters_append co_Letters_append (fun a k h hk => by unfold gt_Letters_append at h; cases h) (fun q hq h => absurd h (nt_Letters_append q hq)) (fun av σ K kx h => by rw [sII_len h]; decide) ?_ ?_
  · intro av σ K kx hok hSp
    obtain ⟨x0, x1, rfl, hp⟩ := sII_inv hSp
    have h0 := hp
    all_goals (repeat' (first | (with_reducible assumption) | (with_reducible refine IV_upd ?_ ?_) | (with_reducible refine IV_cpy ?_ (fun _ _ _ _ => trivial)) | (refine And.intro ?_ ?_) | (intro _)))
    all_goals first | (first | rfl | decide | (simp only [nrm, strm, by8] at * <;> omega) | (simp [upd4, cpy4, nrm, strm, by8] at * <;> omega)) | (exact h0 (by first | assumption | (first | rfl | decide | (simp only [nrm, strm, by8] at * <;> omega) | (simp [upd4, cpy4, nrm, strm, by8] at * <;> omega)))) | (exact h0) | (refine h0 _ ?_ ?_ <;> (repeat' (first | assumption | exact trivial | exact Un_rf | exact hI 4 _ _ _ | exact hI 9 _ _ _ | exact hI 22 _ _ _ | (refine ixr_by8 ?_ ?_) | (refine IV_upd ?_ ?_) | (refine Un_upd rfl ?_) | (refine IV_cpy ?_ (fun _ _ _ _ => trivial)) | (refine Un_cpy rfl ?_) | (apply Un_tr; rotate_left; assumption; rfl) | (refine And.intro ?_ ?_))) <;> (first | rfl | decide | (simp only [nrm, strm, by8] at * <;> omega) | (simp [upd4, cpy4, nrm, strm, by8] at * <;> omega))) | (apply h0 <;> (repeat' (first | assumption | exact trivial | exact Un_rf | exact hI 4 _ _ _ | exact hI 9 _ _ _ | exact hI 22 _ _ _ | (refine ixr_by8 ?_ ?_) | (refine IV_upd ?_ ?_) | (refine Un_upd rfl ?_) | (refine IV_cpy ?_ (fun _ _ _ _ => trivial)) | (refine Un_cpy rfl ?_) | (apply Un_tr; rotate_left; assumption; rfl) | (refine And.intro ?_ ?_))) <;> (first | rfl | decide | (simp only [nrm, strm, by8] at * <;> omega) | (simp [upd4, cpy4, nrm, strm, by8] at * <;> omega))) | ((repeat' (first | assumption | exact trivial | exact Un_rf | exact hI 4 _ _ _ | exact hI 9 _ _ _ | exact hI 22 _ _ _ | (refine ixr_by8 ?_ ?_) | (refine IV_upd ?_ ?_) | (refine Un_upd rfl ?_) | (refine IV_cpy ?_ (fun _ _ _ _ => trivial)) | (refine Un_cpy rfl ?_) | (apply Un_tr; rotate_left; assumption; rfl) | (refine And.intro ?_ ?_))) <;> (first | rfl | decide | (simp only [nrm, strm, by8] at * <;> omega) | (simp [upd4, cpy4, nrm, strm, by8] at * <;> omega)))
  · intro av σ K kx n pc L st σ' nc ns _ _ h
    exact (h : False).elim
def gt_Letters_letterAt (a : Nat) : Option Nat := match a with
  | _ => none
theorem go_Letters_letterAt : ∀ a v, gt_Letters_letterAt a = some v → StaOK R_Letters a v := by
  intro a v h
  unfold gt_Letters_letterAt at h
  cases h
def pr_Letters_letterAt : List Ent := [(0, 3, 0, 0, 0), (1, 0, 0, 5, 0), (2, 3, 1, 0, 0), (3, 14, 0, 0, 0), (4, 22, 0, 0, 0), (5, 1, 0, 31, 0), (7, 18, 0, 0, 0), (8, 1, 0, 97, 0), (10, 12, 0, 0, 0), (11, 0, 0, 1, 0), (12, 13, 0, 0, 0), (13, 48, 0, 0, 0)]
def sw_Letters_letterAt : List Swt := []
theorem dk_Letters_letterAt : ∀ q ∈ pr_Letters_letterAt, decode b_Letters_letterAt q.1 = .ok (dec sw_Letters_letterAt q) ∧ okE q = true := by decide +kernel
theorem nt_Letters_letterAt : ∀ q ∈ pr_Letters_letterAt, ¬ q.2.1 = 55 := by decide +kernel
def ct_Letters_letterAt (a : Nat) : Option (Nat × Nat × CSp × Nat × Nat) := match a with
  | _ => none
theorem co_Letters_letterAt : ∀ a v, ct_Letters_letterAt a = some v → StcOK R_Letters 0 0 a v := by
  intro a v h
  unfold ct_Letters_letterAt at h
  cases h
/-- Letters_letterAt -/
def sp_Letters_letterAt : CSp := sII (fun x0 x1 σ K _ => K (some (.inl (ian (isr x0 (5 * x1)) 31 + 97 - 1))) σ)
set_option maxHeartbeats 4000000 in
set_option maxRecDepth 100000 in
theorem c_Letters_letterAt : Ctr y_Letters_letterAt b_Letters_letterAt 2 (some .int) 0 0 0 0 sp_Letters_letterAt := by
  refine ctr_of (FT := ft_Letters) (GT := gt_Letters_letterAt) (CT := ct_Letters_letterAt) (sw := sw_Letters_letterAt) (rt := 0) (pr := pr_Letters_letterAt) (by decide) [] (fun _ _ _ _ _ _ _ _ _ _ _ => False) 30 ⟨fun _ => rfl, fun h => absurd h (by decide), fun h => absurd h (by decide), fun h => absurd h (by decide)⟩ dk_Letters_letterAt fo_Letters go_Letters_letterAt co_Letters_letterAt (fun a k h hk => by unfold gt_Letters_letterAt at h; cases h) (fun q hq h => absurd h (nt_Letters_letterAt q hq)) (fun av σ K kx h => by rw [sII_len h]; decide) ?_ ?_
  · intro av σ K kx hok hSp
    obtain ⟨x0, x1, rfl, hp⟩ := sII_inv hSp
    have h0 := hp
    all_goals (repeat' (first | (with_reducible assumption) | (with_reducible refine IV_upd ?_ ?_) | (with_reducible refine IV_cpy ?_ (fun _ _ _ _ => trivial)) | (refine And.intro ?_ ?_) | (intro _)))
    all_goals first | (first | rfl | decide | (simp only [nrm, strm, by8] at * <;> omega) | (simp [upd4, cpy4, nrm, strm, by8] at * <;> omega)) | (exact h0 (by first | assumption | (first | rfl | decide | (simp only [nrm, strm, by8] at * <;> omega) | (simp [upd4, cpy4, nrm, strm, by8] at * <;> omega)))) | (exact h0) | (refine h0 _ ?_ ?_ <;> (repeat' (first | assumption | exact trivial | exact Un_rf | exact hI 4 _ _ _ | exact hI 9 _ _ _ | exact hI 22 _ _ _ | (refine ixr_by8 ?_ ?_) | (refine IV_upd ?_ ?_) | (refine Un_upd rfl ?_) | (refine IV_cpy ?_ (fun _ _ _ _ => trivial)) | (refine Un_cpy rfl ?_) | (apply Un_tr; rotate_left; assumption; rfl) | (refine And.intro ?_ ?_))) <;> (first | rfl | decide | (simp only [nrm, strm, by8] at * <;> omega) | (simp [upd4, cpy4, nrm, strm, by8] at * <;> omega))) | (apply h0 <;> (repeat' (first | assumption | exact trivial | exact Un_rf | exact hI 4 _ _ _ | exact hI 9 _ _ _ | exact hI 22 _ _ _ | (refine ixr_by8 ?_ ?_) | (refine IV_upd ?_ ?_) | (refine Un_upd rfl ?_) | (refine IV_cpy ?_ (fun _ _ _ _ => trivial)) | (refine Un_cpy rfl ?_) | (apply Un_tr; rotate_left; assumption; rfl) | (refine And.intro ?_ ?_))) <;> (first | rfl | decide | (simp only [nrm, strm, by8] at * <;> omega) | (simp [upd4, cpy4, nrm, strm, by8] at * <;> omega))) | ((repeat' (first | assumption | exact trivial | exact Un_rf | exact hI 4 _ _ _ | exact hI 9 _ _ _ | exact hI 22 _ _ _ | (refine ixr_by8 ?_ ?_) | (refine IV_upd ?_ ?_) | (refine Un_upd rfl ?_) | (refine IV_cpy ?_ (fun _ _ _ _ => trivial)) | (refine Un_cpy rfl ?_) | (apply Un_tr; rotate_left; assumption; rfl) | (refine And.intro ?_ ?_))) <;> (first | rfl | decide | (simp only [nrm, strm, by8] at * <;> omega) | (simp [upd4, cpy4, nrm, strm, by8] at * <;> omega)))
  · intro av σ K kx n pc L st σ' nc ns _ _ h
    exact (h : False).elim
def gt_Letters_isLetter (a : Nat) : Option Nat := match a with
  | _ => none
theorem go_Letters_isLetter : ∀ a v, gt_Letters_isLetter a = some v → StaOK R_Letters a v := by
  intro a v h
  unfold gt_Letters_isLetter at h
  cases h
def pr_Letters_isLetter : List Ent := [(0, 3, 0, 0, 0), (1, 1, 0, 97, 0), (3, 34, 0, 0, 16), (6, 3, 0, 0, 0), (7, 1, 0, 122, 0), (9, 36, 0, 0, 16), (12, 0, 0, 1, 0), (13, 38, 0, 0, 17), (16, 0, 0, 0, 0), (17, 48, 0, 0, 0)]
def sw_Letters_isLetter : List Swt := []
theorem dk_Letters_isLetter : ∀ q ∈ pr_Letters_isLetter, decode b_Letters_isLetter q.1 = .ok (dec sw_Letters_isLetter q) ∧ okE q = true := by decide +kernel
theorem nt_Letters_isLetter : ∀ q ∈ pr_Letters_isLetter, ¬ q.2.1 = 55 := by decide +kernel
def ct_Letters_isLetter (a : Nat) : Option (Nat × Nat × CSp × Nat × Nat) := match a with
  | _ => none
theorem co_Letters_isLetter : ∀ a v, ct_Letters_isLetter a = some v → StcOK R_Letters 0 0 a v := by
  intro a v h
  unfold ct_Letters_isLetter at h
  cases h
/-- Letters_isLetter -/
def sp_Letters_isLetter : CSp := sI (fun x0 σ K _ => (97 ≤ nrm x0 ∧ nrm x0 ≤ 122 → K (some (.inl 1)) σ) ∧ (¬ (97 ≤ nrm x0 ∧ nrm x0 ≤ 122) → K (some (.inl 0)) σ))
set_option maxHeartbeats 4000000 in
set_option maxRecDepth 100000 in
theorem c_Letters_isLetter : Ctr y_Letters_isLetter b_Letters_isLetter 1 (some .boolean) 0 0 0 0 sp_Letters_isLetter := by
  refine ctr_of (FT := ft_Letters) (GT := gt_Letters_isLetter) (CT := ct_Letters_isLetter) (sw := sw_Letters_isLetter) (rt := 1) (pr := pr_Letters_isLetter) (by decide) [] (fun _ _ _ _ _ _ _ _ _ _ _ => False) 30 ⟨fun h => absurd h (by decide), fun _ => rfl, fun h => absurd h (by decide), fun h => absurd h (by decide)⟩ dk_Letters_isLetter fo_Letters go_Letters_isLetter co_Letters_isLetter (fun a k h hk => by unfold gt_Letters_isLetter at h; cases h) (fun q hq h => absurd h (nt_Letters_isLetter q hq)) (fun av σ K kx h => by rw [sI_len h]; decide) ?_ ?_
  · intro av σ K kx hok hSp
    obtain ⟨x0, rfl, hp⟩ := sI_inv hSp
    obtain ⟨h0, h1⟩ := hp
    all_goals (repeat' (first | (with_reducible assumption) | (with_reducible refine IV_upd ?_ ?_) | (with_reducible refine IV_cpy ?_ (fun _ _ _ _ => trivial)) | (refine And.intro ?_ ?_) | (intro _)))
    all_goals first | (first | rfl | decide | (simp only [nrm, strm, by8] at * <;> omega) | (simp [upd4, cpy4, nrm, strm, by8] at * <;> omega)) | (exact h0 (by first | assumption | (first | rfl | decide | (simp only [nrm, strm, by8] at * <;> omega) | (simp [upd4, cpy4, nrm, strm, by8] at * <;> omega)))) | (exact h1 (by first | assumption | (first | rfl | decide | (simp only [nrm, strm, by8] at * <;> omega) | (simp [upd4, cpy4, nrm, strm, by8] at * <;> omega)))) | (exact h0) | (exact h1) | (refine h0 _ ?_ ?_ <;> (repeat' (first | assumption | exact trivial | exact Un_rf | exact hI 4 _ _ _ | exact hI 9 _ _ _ | exact hI 22 _ _ _ | (refine ixr_by8 ?_ ?_) | (refine IV_upd ?_ ?_) | (refine Un_upd rfl ?_) | (refine IV_cpy ?_ (fun _ _ _ _ => trivial)) | (refine Un_cpy rfl ?_) | (apply Un_tr; rotate_left; assumption; rfl) | (refine And.intro ?_ ?_))) <;> (first | rfl | decide | (simp only [nrm, strm, by8] at * <;> omega) | (simp [upd4, cpy4, nrm, strm, by8] at * <;> omega))) | (refine h1 _ ?_ ?_ <;> (repeat' (first | assumption | exact trivial | exact Un_rf | exact hI 4 _ _ _ | exact hI 9 _ _ _ | exact hI 22 _ _ _ | (refine ixr_by8 ?_ ?_) | (refine IV_upd ?_ ?_) | (refine Un_upd rfl ?_) | (refine IV_cpy ?_ (fun _ _ _ _ => trivial)) | (refine Un_cpy rfl ?_) | (apply Un_tr; rotate_left; assumption; rfl) | (refine And.intro ?_ ?_))) <;> (first | rfl | decide | (simp only [nrm, strm, by8] at * <;> omega) | (simp [upd4, cpy4, nrm, strm, by8] at * <;> omega))) | (apply h0 <;> (repeat' (first | assumption | exact trivial | exact Un_rf | exact hI 4 _ _ _ | exact hI 9 _ _ _ | exact hI 22 _ _ _ | (refine ixr_by8 ?_ ?_) | (refine IV_upd ?_ ?_) | (refine Un_upd rfl ?_) | (refine IV_cpy ?_ (fun _ _ _ _ => trivial)) | (refine Un_cpy rfl ?_) | (apply Un_tr; rotate_left; assumption; rfl) | (refine And.intro ?_ ?_))) <;> (first | rfl | decide | (simp only [nrm, strm, by8] at * <;> omega) | (simp [upd4, cpy4, nrm, strm, by8] at * <;> omega))) | (apply h1 <;> (repeat' (first | assumption | exact trivial | exact Un_rf | exact hI 4 _ _ _ | exact hI 9 _ _ _ | exact hI 22 _ _ _ | (refine ixr_by8 ?_ ?_) | (refine IV_upd ?_ ?_) | (refine Un_upd rfl ?_) | (refine IV_cpy ?_ (fun _ _ _ _ => trivial)) | (refine Un_cpy rfl ?_) | (apply Un_tr; rotate_left; assumption; rfl) | (refine And.intro ?_ ?_))) <;> (first | rfl | decide | (simp only [nrm, strm, by8] at * <;> omega) | (simp [upd4, cpy4, nrm, strm, by8] at * <;> omega))) | ((repeat' (first | assumption | exact trivial | exact Un_rf | exact hI 4 _ _ _ | exact hI 9 _ _ _ | exact hI 22 _ _ _ | (refine ixr_by8 ?_ ?_) | (refine IV_upd ?_ ?_) | (refine Un_upd rfl ?_) | (refine IV_cpy ?_ (fun _ _ _ _ => trivial)) | (refine Un_cpy rfl ?_) | (apply Un_tr; rotate_left; assumption; rfl) | (refine And.intro ?_ ?_))) <;> (first | rfl | decide | (simp only [nrm, strm, by8] at * <;> omega) | (simp [upd4, cpy4, nrm, strm, by8] at * <;> omega)))
  · intro av σ K kx n pc L st σ' nc ns _ _ h
    exact (h : False).elim
def ft_FrameStreams (a : Nat) : Option (Nat × Nat × Nat) := match a with
  | 9 => some (0, 0, 2)
  | 15 => some (0, 1, 2)
  | _ => none
theorem fo_FrameStreams : ∀ a v, ft_FrameStreams a = some v → FldOK R_FrameStreams a v := by
  intro a v h
  unfold ft_FrameStreams at h
  split at h
  · cases h; exact fl_FrameStreams _ _ _ _ (by decide) (by decide +kernel) (by decide)
  · cases h; exact fl_FrameStreams _ _ _ _ (by decide) (by decide +kernel) (by decide)
  · cases h
def gt_FrameStreams_isStream (a : Nat) : Option Nat := match a with
  | _ => none
theorem go_FrameStreams_isStream : ∀ a v, gt_FrameStreams_isStream a = some v → StaOK R_FrameStreams a v := by
  intro a v h
  unfold gt_FrameStreams_isStream at h
  cases h
def pr_FrameStreams_isStream : List Ent := [(0, 3, 0, 0, 0), (1, 0, 0, 1, 0), (2, 34, 0, 0, 22), (5, 3, 0, 0, 0), (6, 1, 0, 13, 0), (8, 36, 0, 0, 22), (11, 3, 0, 0, 0), (12, 0, 0, 2, 0), (13, 17, 0, 0, 0), (14, 0, 0, 1, 0), (15, 33, 0, 0, 22), (18, 0, 0, 1, 0), (19, 38, 0, 0, 23), (22, 0, 0, 0, 0), (23, 48, 0, 0, 0)]
def sw_FrameStreams_isStream : List Swt := []
theorem dk_FrameStreams_isStream : ∀ q ∈ pr_FrameStreams_isStream, decode b_FrameStreams_isStream q.1 = .ok (dec sw_FrameStreams_isStream q) ∧ okE q = true := by decide +kernel
theorem nt_FrameStreams_isStream : ∀ q ∈ pr_FrameStreams_isStream, ¬ q.2.1 = 55 := by decide +kernel
def ct_FrameStreams_isStream (a : Nat) : Option (Nat × Nat × CSp × Nat × Nat) := match a with
  | _ => none
theorem co_FrameStreams_isStream : ∀ a v, ct_FrameStreams_isStream a = some v → StcOK R_FrameStreams 0 0 a v := by
  intro a v h
  unfold ct_FrameStreams_isStream at h
  cases h
/-- FrameStreams_isStream -/
def sp_FrameStreams_isStream : CSp := sI (fun x0 σ K _ => (strm x0 → K (some (.inl 1)) σ) ∧ (¬ strm x0 → K (some (.inl 0)) σ))
set_option maxHeartbeats 4000000 in
set_option maxRecDepth 100000 in
theorem c_FrameStreams_isStream : Ctr y_FrameStreams_isStream b_FrameStreams_isStream 1 (some .boolean) 0 0 0 0 sp_FrameStreams_isStream := by
  refine ctr_of (FT := ft_FrameStreams) (GT := gt_FrameStreams_isStream) (CT := ct_FrameStreams_isStream) (sw := sw_FrameStreams_isStream) (rt := 1) (pr := pr_FrameStreams_isStream) (by decide) [] (fun _ _ _ _ _ _ _ _ _ _ _ => False) 30 ⟨fun h => absurd h (by decide), fun _ => rfl, fun h => absurd h (by decide), fun h => absurd h (by decide)⟩ dk_FrameStreams_isStream fo_FrameStreams go_FrameStreams_isStream co_FrameStreams_isStream (fun a k h hk => by unfold gt_FrameStreams_isStream at h; cases h) (fun q hq h => absurd h (nt_FrameStreams_isStream q hq)) (fun av σ K kx h => by rw [sI_len h]; decide) ?_ ?_
  · intro av σ K kx hok hSp
    obtain ⟨x0, rfl, hp⟩ := sI_inv hSp
    obtain ⟨h0, h1⟩ := hp
    all_goals (repeat' (first | (with_reducible assumption) | (with_reducible refine IV_upd ?_ ?_) | (with_reducible refine IV_cpy ?_ (fun _ _ _ _ => trivial)) | (refine And.intro ?_ ?_) | (intro _)))
    all_goals first | (first | rfl | decide | (simp only [nrm, strm, by8] at * <;> omega) | (simp [upd4, cpy4, nrm, strm, by8] at * <;> omega)) | (exact h0 (by first | assumption | (first | rfl | decide | (simp only [nrm, strm, by8] at * <;> omega) | (simp [upd4, cpy4, nrm, strm, by8] at * <;> omega)))) | (exact h1 (by first | assumption | (first | rfl | decide | (simp only [nrm, strm, by8] at * <;> omega) | (simp [upd4, cpy4, nrm, strm, by8] at * <;> omega)))) | (exact h0) | (exact h1) | (refine h0 _ ?_ ?_ <;> (repeat' (first | assumption | exact trivial | exact Un_rf | exact hI 4 _ _ _ | exact hI 9 _ _ _ | exact hI 22 _ _ _ | (refine ixr_by8 ?_ ?_) | (refine IV_upd ?_ ?_) | (refine Un_upd rfl ?_) | (refine IV_cpy ?_ (fun _ _ _ _ => trivial)) | (refine Un_cpy rfl ?_) | (apply Un_tr; rotate_left; assumption; rfl) | (refine And.intro ?_ ?_))) <;> (first | rfl | decide | (simp only [nrm, strm, by8] at * <;> omega) | (simp [upd4, cpy4, nrm, strm, by8] at * <;> omega))) | (refine h1 _ ?_ ?_ <;> (repeat' (first | assumption | exact trivial | exact Un_rf | exact hI 4 _ _ _ | exact hI 9 _ _ _ | exact hI 22 _ _ _ | (refine ixr_by8 ?_ ?_) | (refine IV_upd ?_ ?_) | (refine Un_upd rfl ?_) | (refine IV_cpy ?_ (fun _ _ _ _ => trivial)) | (refine Un_cpy rfl ?_) | (apply Un_tr; rotate_left; assumption; rfl) | (refine And.intro ?_ ?_))) <;> (first | rfl | decide | (simp only [nrm, strm, by8] at * <;> omega) | (simp [upd4, cpy4, nrm, strm, by8] at * <;> omega))) | (apply h0 <;> (repeat' (first | assumption | exact trivial | exact Un_rf | exact hI 4 _ _ _ | exact hI 9 _ _ _ | exact hI 22 _ _ _ | (refine ixr_by8 ?_ ?_) | (refine IV_upd ?_ ?_) | (refine Un_upd rfl ?_) | (refine IV_cpy ?_ (fun _ _ _ _ => trivial)) | (refine Un_cpy rfl ?_) | (apply Un_tr; rotate_left; assumption; rfl) | (refine And.intro ?_ ?_))) <;> (first | rfl | decide | (simp only [nrm, strm, by8] at * <;> omega) | (simp [upd4, cpy4, nrm, strm, by8] at * <;> omega))) | (apply h1 <;> (repeat' (first | assumption | exact trivial | exact Un_rf | exact hI 4 _ _ _ | exact hI 9 _ _ _ | exact hI 22 _ _ _ | (refine ixr_by8 ?_ ?_) | (refine IV_upd ?_ ?_) | (refine Un_upd rfl ?_) | (refine IV_cpy ?_ (fun _ _ _ _ => trivial)) | (refine Un_cpy rfl ?_) | (apply Un_tr; rotate_left; assumption; rfl) | (refine And.intro ?_ ?_))) <;> (first | rfl | decide | (simp only [nrm, strm, by8] at * <;> omega) | (simp [upd4, cpy4, nrm, strm, by8] at * <;> omega))) | ((repeat' (first | assumption | exact trivial | exact Un_rf | exact hI 4 _ _ _ | exact hI 9 _ _ _ | exact hI 22 _ _ _ | (refine ixr_by8 ?_ ?_) | (refine IV_upd ?_ ?_) | (refine Un_upd rfl ?_) | (refine IV_cpy ?_ (fun _ _ _ _ => trivial)) | (refine Un_cpy rfl ?_) | (apply Un_tr; rotate_left; assumption; rfl) | (refine And.intro ?_ ?_))) <;> (first | rfl | decide | (simp only [nrm, strm, by8] at * <;> omega) | (simp [upd4, cpy4, nrm, strm, by8] at * <;> omega)))
  · intro av σ K kx n pc L st σ' nc ns _ _ h
    exact (h : False).elim
def gt_FrameStreams_requireArgument (a : Nat) : Option Nat := match a with
  | _ => none
theorem go_FrameStreams_requireArgument : ∀ a v, gt_FrameStreams_requireArgument a = some v → StaOK R_FrameStreams a v := by
  intro a v h
  unfold gt_FrameStreams_requireArgument at h
  cases h
def pr_FrameStreams_requireArgument : List Ent := [(0, 3, 0, 0, 0), (1, 27, 0, 0, 12), (4, 55, 172, 174, 1), (12, 49, 0, 0, 0)]
def sw_FrameStreams_requireArgument : List Swt := []
theorem dk_FrameStreams_requireArgument : ∀ q ∈ pr_FrameStreams_requireArgument, decode b_FrameStreams_requireArgument q.1 = .ok (dec sw_FrameStreams_requireArgument q) ∧ okE q = true := by decide +kernel
theorem th_FrameStreams_requireArgument : ∀ q ∈ pr_FrameStreams_requireArgument, q.2.1 = 55 → ThrOK R_FrameStreams b_FrameStreams_requireArgument q ∧ 6 ≤ 6 ∧ 89 ≤ 89 := by
  intro q hq h
  have hm : q = (4, 55, 172, 174, 1) := by
    have h2 : ∀ q ∈ pr_FrameStreams_requireArgument, q.2.1 = 55 → q = (4, 55, 172, 174, 1) := by decide +kernel
    exact h2 q hq h
  subst hm
  exact ⟨⟨["java/lang/RuntimeException", "java/lang/Exception"], by decide +kernel, by decide +kernel, by decide +kernel, by decide +kernel, by decide +kernel, by decide, by decide +kernel, by decide +kernel, by decide +kernel⟩, by decide, by decide⟩
def ct_FrameStreams_requireArgument (a : Nat) : Option (Nat × Nat × CSp × Nat × Nat) := match a with
  | _ => none
theorem co_FrameStreams_requireArgument : ∀ a v, ct_FrameStreams_requireArgument a = some v → StcOK R_FrameStreams 6 89 a v := by
  intro a v h
  unfold ct_FrameStreams_requireArgument at h
  cases h
/-- FrameStreams_requireArgument -/
def sp_FrameStreams_requireArgument : CSp := sI (fun x0 σ K kx => (¬ nrm x0 = 0 → K none σ) ∧ (nrm x0 = 0 → kx xIAE σ))
set_option maxHeartbeats 4000000 in
set_option maxRecDepth 100000 in
theorem c_FrameStreams_requireArgument : Ctr y_FrameStreams_requireArgument b_FrameStreams_requireArgument 1 none 6 89 1 6 sp_FrameStreams_requireArgument := by
  refine ctr_of (FT := ft_FrameStreams) (GT := gt_FrameStreams_requireArgument) (CT := ct_FrameStreams_requireArgument) (sw := sw_FrameStreams_requireArgument) (rt := 2) (pr := pr_FrameStreams_requireArgument) (by decide) [] (fun _ _ _ _ _ _ _ _ _ _ _ => False) 20 ⟨fun h => absurd h (by decide), fun h => absurd h (by decide), fun _ => rfl, fun h => absurd h (by decide)⟩ dk_FrameStreams_requireArgument fo_FrameStreams go_FrameStreams_requireArgument co_FrameStreams_requireArgument (fun a k h hk => by unfold gt_FrameStreams_requireArgument at h; cases h) th_FrameStreams_requireArgument (fun av σ K kx h => by rw [sI_len h]; decide) ?_ ?_
  · intro av σ K kx hok hSp
    obtain ⟨x0, rfl, hp⟩ := sI_inv hSp
    obtain ⟨h0, h1⟩ := hp
    all_goals (repeat' (first | (with_reducible assumption) | (with_reducible refine IV_upd ?_ ?_) | (with_reducible refine IV_cpy ?_ (fun _ _ _ _ => trivial)) | (refine And.intro ?_ ?_) | (intro _)))
    all_goals first | (first | rfl | decide | (simp only [nrm, strm, by8] at * <;> omega) | (simp [upd4, cpy4, nrm, strm, by8] at * <;> omega)) | (exact h0 (by first | assumption | (first | rfl | decide | (simp only [nrm, strm, by8] at * <;> omega) | (simp [upd4, cpy4, nrm, strm, by8] at * <;> omega)))) | (exact h1 (by first | assumption | (first | rfl | decide | (simp only [nrm, strm, by8] at * <;> omega) | (simp [upd4, cpy4, nrm, strm, by8] at * <;> omega)))) | (exact h0) | (exact h1) | (refine h0 _ ?_ ?_ <;> (repeat' (first | assumption | exact trivial | exact Un_rf | exact hI 4 _ _ _ | exact hI 9 _ _ _ | exact hI 22 _ _ _ | (refine ixr_by8 ?_ ?_) | (refine IV_upd ?_ ?_) | (refine Un_upd rfl ?_) | (refine IV_cpy ?_ (fun _ _ _ _ => trivial)) | (refine Un_cpy rfl ?_) | (apply Un_tr; rotate_left; assumption; rfl) | (refine And.intro ?_ ?_))) <;> (first | rfl | decide | (simp only [nrm, strm, by8] at * <;> omega) | (simp [upd4, cpy4, nrm, strm, by8] at * <;> omega))) | (refine h1 _ ?_ ?_ <;> (repeat' (first | assumption | exact trivial | exact Un_rf | exact hI 4 _ _ _ | exact hI 9 _ _ _ | exact hI 22 _ _ _ | (refine ixr_by8 ?_ ?_) | (refine IV_upd ?_ ?_) | (refine Un_upd rfl ?_) | (refine IV_cpy ?_ (fun _ _ _ _ => trivial)) | (refine Un_cpy rfl ?_) | (apply Un_tr; rotate_left; assumption; rfl) | (refine And.intro ?_ ?_))) <;> (first | rfl | decide | (simp only [nrm, strm, by8] at * <;> omega) | (simp [upd4, cpy4, nrm, strm, by8] at * <;> omega))) | (apply h0 <;> (repeat' (first | assumption | exact trivial | exact Un_rf | exact hI 4 _ _ _ | exact hI 9 _ _ _ | exact hI 22 _ _ _ | (refine ixr_by8 ?_ ?_) | (refine IV_upd ?_ ?_) | (refine Un_upd rfl ?_) | (refine IV_cpy ?_ (fun _ _ _ _ => trivial)) | (refine Un_cpy rfl ?_) | (apply Un_tr; rotate_left; assumption; rfl) | (refine And.intro ?_ ?_))) <;> (first | rfl | decide | (simp only [nrm, strm, by8] at * <;> omega) | (simp [upd4, cpy4, nrm, strm, by8] at * <;> omega))) | (apply h1 <;> (repeat' (first | assumption | exact trivial | exact Un_rf | exact hI 4 _ _ _ | exact hI 9 _ _ _ | exact hI 22 _ _ _ | (refine ixr_by8 ?_ ?_) | (refine IV_upd ?_ ?_) | (refine Un_upd rfl ?_) | (refine IV_cpy ?_ (fun _ _ _ _ => trivial)) | (refine Un_cpy rfl ?_) | (apply Un_tr; rotate_left; assumption; rfl) | (refine And.intro ?_ ?_))) <;> (first | rfl | decide | (simp only [nrm, strm, by8] at * <;> omega) | (simp [upd4, cpy4, nrm, strm, by8] at * <;> omega))) | ((repeat' (first | assumption | exact trivial | exact Un_rf | exact hI 4 _ _ _ | exact hI 9 _ _ _ | exact hI 22 _ _ _ | (refine ixr_by8 ?_ ?_) | (refine IV_upd ?_ ?_) | (refine Un_upd rfl ?_) | (refine IV_cpy ?_ (fun _ _ _ _ => trivial)) | (refine Un_cpy rfl ?_) | (apply Un_tr; rotate_left; assumption; rfl) | (refine And.intro ?_ ?_))) <;> (first | rfl | decide | (simp only [nrm, strm, by8] at * <;> omega) | (simp [upd4, cpy4, nrm, strm, by8] at * <;> omega)))
  · intro av σ K kx n pc L st σ' nc ns _ _ h
    exact (h : False).elim
def gt_FrameStreams_requireState (a : Nat) : Option Nat := match a with
  | _ => none
theorem go_FrameStreams_requireState : ∀ a v, gt_FrameStreams_requireState a = some v → StaOK R_FrameStreams a v := by
  intro a v h
  unfold gt_FrameStreams_requireState at h
  cases h
def pr_FrameStreams_requireState : List Ent := [(0, 3, 0, 0, 0), (1, 27, 0, 0, 12), (4, 55, 175, 177, 4), (12, 49, 0, 0, 0)]
def sw_FrameStreams_requireState : List Swt := []
theorem dk_FrameStreams_requireState : ∀ q ∈ pr_FrameStreams_requireState, decode b_FrameStreams_requireState q.1 = .ok (dec sw_FrameStreams_requireState q) ∧ okE q = true := by decide +kernel
theorem th_FrameStreams_requireState : ∀ q ∈ pr_FrameStreams_requireState, q.2.1 = 55 → ThrOK R_FrameStreams b_FrameStreams_requireState q ∧ 6 ≤ 6 ∧ 89 ≤ 89 := by
  intro q hq h
  have hm : q = (4, 55, 175, 177, 4) := by
    have h2 : ∀ q ∈ pr_FrameStreams_requireState, q.2.1 = 55 → q = (4, 55, 175, 177, 4) := by decide +kernel
    exact h2 q hq h
  subst hm
  exact ⟨⟨["java/lang/RuntimeException", "java/lang/Exception"], by decide +kernel, by decide +kernel, by decide +kernel, by decide +kernel, by decide +kernel, by decide, by decide +kernel, by decide +kernel, by decide +kernel⟩, by decide, by decide⟩
def ct_FrameStreams_requireState (a : Nat) : Option (Nat × Nat × CSp × Nat × Nat) := match a with
  | _ => none
theorem co_FrameStreams_requireState : ∀ a v, ct_FrameStreams_requireState a = some v → StcOK R_FrameStreams 6 89 a v := by
  intro a v h
  unfold ct_FrameStreams_requireState at h
  cases h
/-- FrameStreams_requireState -/
def sp_FrameStreams_requireState : CSp := sI (fun x0 σ K kx => (¬ nrm x0 = 0 → K none σ) ∧ (nrm x0 = 0 → kx xISE σ))
set_option maxHeartbeats 4000000 in
set_option maxRecDepth 100000 in
theorem c_FrameStreams_requireState : Ctr y_FrameStreams_requireState b_FrameStreams_requireState 1 none 6 89 1 6 sp_FrameStreams_requireState := by
  refine ctr_of (FT := ft_FrameStreams) (GT := gt_FrameStreams_requireState) (CT := ct_FrameStreams_requireState) (sw := sw_FrameStreams_requireState) (rt := 2) (pr := pr_FrameStreams_requireState) (by decide) [] (fun _ _ _ _ _ _ _ _ _ _ _ => False) 20 ⟨fun h => absurd h (by decide), fun h => absurd h (by decide), fun _ => rfl, fun h => absurd h (by decide)⟩ dk_FrameStreams_requireState fo_FrameStreams go_FrameStreams_requireState co_FrameStreams_requireState (fun a k h hk => by unfold gt_FrameStreams_requireState at h; cases h) th_FrameStreams_requireState (fun av σ K kx h => by rw [sI_len h]; decide) ?_ ?_
  · intro av σ K kx hok hSp
    obtain ⟨x0, rfl, hp⟩ := sI_inv hSp
    obtain ⟨h0, h1⟩ := hp
    all_goals (repeat' (first | (with_reducible assumption) | (with_reducible refine IV_upd ?_ ?_) | (with_reducible refine IV_cpy ?_ (fun _ _ _ _ => trivial)) | (refine And.intro ?_ ?_) | (intro _)))
    all_goals first | (first | rfl | decide | (simp only [nrm, strm, by8] at * <;> omega) | (simp [upd4, cpy4, nrm, strm, by8] at * <;> omega)) | (exact h0 (by first | assumption | (first | rfl | decide | (simp only [nrm, strm, by8] at * <;> omega) | (simp [upd4, cpy4, nrm, strm, by8] at * <;> omega)))) | (exact h1 (by first | assumption | (first | rfl | decide | (simp only [nrm, strm, by8] at * <;> omega) | (simp [upd4, cpy4, nrm, strm, by8] at * <;> omega)))) | (exact h0) | (exact h1) | (refine h0 _ ?_ ?_ <;> (repeat' (first | assumption | exact trivial | exact Un_rf | exact hI 4 _ _ _ | exact hI 9 _ _ _ | exact hI 22 _ _ _ | (refine ixr_by8 ?_ ?_) | (refine IV_upd ?_ ?_) | (refine Un_upd rfl ?_) | (refine IV_cpy ?_ (fun _ _ _ _ => trivial)) | (refine Un_cpy rfl ?_) | (apply Un_tr; rotate_left; assumption; rfl) | (refine And.intro ?_ ?_))) <;> (first | rfl | decide | (simp only [nrm, strm, by8] at * <;> omega) | (simp [upd4, cpy4, nrm, strm, by8] at * <;> omega))) | (refine h1 _ ?_ ?_ <;> (repeat' (first | assumption | exact trivial | exact Un_rf | exact hI 4 _ _ _ | exact hI 9 _ _ _ | exact hI 22 _ _ _ | (refine ixr_by8 ?_ ?_) | (refine IV_upd ?_ ?_) | (refine Un_upd rfl ?_) | (refine IV_cpy ?_ (fun _ _ _ _ => trivial)) | (refine Un_cpy rfl ?_) | (apply Un_tr; rotate_left; assumption; rfl) | (refine And.intro ?_ ?_))) <;> (first | rfl | decide | (simp only [nrm, strm, by8] at * <;> omega) | (simp [upd4, cpy4, nrm, strm, by8] at * <;> omega))) | (apply h0 <;> (repeat' (first | assumption | exact trivial | exact Un_rf | exact hI 4 _ _ _ | exact hI 9 _ _ _ | exact hI 22 _ _ _ | (refine ixr_by8 ?_ ?_) | (refine IV_upd ?_ ?_) | (refine Un_upd rfl ?_) | (refine IV_cpy ?_ (fun _ _ _ _ => trivial)) | (refine Un_cpy rfl ?_) | (apply Un_tr; rotate_left; assumption; rfl) | (refine And.intro ?_ ?_))) <;> (first | rfl | decide | (simp only [nrm, strm, by8] at * <;> omega) | (simp [upd4, cpy4, nrm, strm, by8] at * <;> omega))) | (apply h1 <;> (repeat' (first | assumption | exact trivial | exact Un_rf | exact hI 4 _ _ _ | exact hI 9 _ _ _ | exact hI 22 _ _ _ | (refine ixr_by8 ?_ ?_) | (refine IV_upd ?_ ?_) | (refine Un_upd rfl ?_) | (refine IV_cpy ?_ (fun _ _ _ _ => trivial)) | (refine Un_cpy rfl ?_) | (apply Un_tr; rotate_left; assumption; rfl) | (refine And.intro ?_ ?_))) <;> (first | rfl | decide | (simp only [nrm, strm, by8] at * <;> omega) | (simp [upd4, cpy4, nrm, strm, by8] at * <;> omega))) | ((repeat' (first | assumption | exact trivial | exact Un_rf | exact hI 4 _ _ _ | exact hI 9 _ _ _ | exact hI 22 _ _ _ | (refine ixr_by8 ?_ ?_) | (refine IV_upd ?_ ?_) | (refine Un_upd rfl ?_) | (refine IV_cpy ?_ (fun _ _ _ _ => trivial)) | (refine Un_cpy rfl ?_) | (apply Un_tr; rotate_left; assumption; rfl) | (refine And.intro ?_ ?_))) <;> (first | rfl | decide | (simp only [nrm, strm, by8] at * <;> omega) | (simp [upd4, cpy4, nrm, strm, by8] at * <;> omega)))
  · intro av σ K kx n pc L st σ' nc ns _ _ h
    exact (h : False).elim
def gt_FrameStreams_requireThere (a : Nat) : Option Nat := match a with
  | _ => none
theorem go_FrameStreams_requireThere : ∀ a v, gt_FrameStreams_requireThere a = some v → StaOK R_FrameStreams a v := by
  intro a v h
  unfold gt_FrameStreams_requireThere at h
  cases h
def pr_FrameStreams_requireThere : List Ent := [(0, 3, 0, 0, 0), (1, 27, 0, 0, 12), (4, 55, 178, 180, 2), (12, 49, 0, 0, 0)]
def sw_FrameStreams_requireThere : List Swt := []
theorem dk_FrameStreams_requireThere : ∀ q ∈ pr_FrameStreams_requireThere, decode b_FrameStreams_requireThere q.1 = .ok (dec sw_FrameStreams_requireThere q) ∧ okE q = true := by decide +kernel
theorem th_FrameStreams_requireThere : ∀ q ∈ pr_FrameStreams_requireThere, q.2.1 = 55 → ThrOK R_FrameStreams b_FrameStreams_requireThere q ∧ 6 ≤ 6 ∧ 89 ≤ 89 := by
  intro q hq h
  have hm : q = (4, 55, 178, 180, 2) := by
    have h2 : ∀ q ∈ pr_FrameStreams_requireThere, q.2.1 = 55 → q = (4, 55, 178, 180, 2) := by decide +kernel
    exact h2 q hq h
  subst hm
  exact ⟨⟨["java/lang/RuntimeException", "java/lang/Exception"], by decide +kernel, by decide +kernel, by decide +kernel, by decide +kernel, by decide +kernel, by decide, by decide +kernel, by decide +kernel, by decide +kernel⟩, by decide, by decide⟩
def ct_FrameStreams_requireThere (a : Nat) : Option (Nat × Nat × CSp × Nat × Nat) := match a with
  | _ => none
theorem co_FrameStreams_requireThere : ∀ a v, ct_FrameStreams_requireThere a = some v → StcOK R_FrameStreams 6 89 a v := by
  intro a v h
  unfold ct_FrameStreams_requireThere at h
  cases h
/-- FrameStreams_requireThere -/
def sp_FrameStreams_requireThere : CSp := sI (fun x0 σ K kx => (¬ nrm x0 = 0 → K none σ) ∧ (nrm x0 = 0 → kx xNSE σ))
set_option maxHeartbeats 4000000 in
set_option maxRecDepth 100000 in
theorem c_FrameStreams_requireThere : Ctr y_FrameStreams_requireThere b_FrameStreams_requireThere 1 none 6 89 1 6 sp_FrameStreams_requireThere := by
  refine ctr_of (FT := ft_FrameStreams) (GT := gt_FrameStreams_requireThere) (CT := ct_FrameStreams_requireThere) (sw := sw_FrameStreams_requireThere) (rt := 2) (pr := pr_FrameStreams_requireThere) (by decide) [] (fun _ _ _ _ _ _ _ _ _ _ _ => False) 20 ⟨fun h => absurd h (by decide), fun h => absurd h (by decide), fun _ => rfl, fun h => absurd h (by decide)⟩ dk_FrameStreams_requireThere fo_FrameStreams go_FrameStreams_requireThere co_FrameStreams_requireThere (fun a k h hk => by unfold gt_FrameStreams_requireThere at h; cases h) th_FrameStreams_requireThere (fun av σ K kx h => by rw [sI_len h]; decide) ?_ ?_
  · intro av σ K kx hok hSp
    obtain ⟨x0, rfl, hp⟩ := sI_inv hSp
    obtain ⟨h0, h1⟩ := hp
    all_goals (repeat' (first | (with_reducible assumption) | (with_reducible refine IV_upd ?_ ?_) | (with_reducible refine IV_cpy ?_ (fun _ _ _ _ => trivial)) | (refine And.intro ?_ ?_) | (intro _)))
    all_goals first | (first | rfl | decide | (simp only [nrm, strm, by8] at * <;> omega) | (simp [upd4, cpy4, nrm, strm, by8] at * <;> omega)) | (exact h0 (by first | assumption | (first | rfl | decide | (simp only [nrm, strm, by8] at * <;> omega) | (simp [upd4, cpy4, nrm, strm, by8] at * <;> omega)))) | (exact h1 (by first | assumption | (first | rfl | decide | (simp only [nrm, strm, by8] at * <;> omega) | (simp [upd4, cpy4, nrm, strm, by8] at * <;> omega)))) | (exact h0) | (exact h1) | (refine h0 _ ?_ ?_ <;> (repeat' (first | assumption | exact trivial | exact Un_rf | exact hI 4 _ _ _ | exact hI 9 _ _ _ | exact hI 22 _ _ _ | (refine ixr_by8 ?_ ?_) | (refine IV_upd ?_ ?_) | (refine Un_upd rfl ?_) | (refine IV_cpy ?_ (fun _ _ _ _ => trivial)) | (refine Un_cpy rfl ?_) | (apply Un_tr; rotate_left; assumption; rfl) | (refine And.intro ?_ ?_))) <;> (first | rfl | decide | (simp only [nrm, strm, by8] at * <;> omega) | (simp [upd4, cpy4, nrm, strm, by8] at * <;> omega))) | (refine h1 _ ?_ ?_ <;> (repeat' (first | assumption | exact trivial | exact Un_rf | exact hI 4 _ _ _ | exact hI 9 _ _ _ | exact hI 22 _ _ _ | (refine ixr_by8 ?_ ?_) | (refine IV_upd ?_ ?_) | (refine Un_upd rfl ?_) | (refine IV_cpy ?_ (fun _ _ _ _ => trivial)) | (refine Un_cpy rfl ?_) | (apply Un_tr; rotate_left; assumption; rfl) | (refine And.intro ?_ ?_))) <;> (first | rfl | decide | (simp only [nrm, strm, by8] at * <;> omega) | (simp [upd4, cpy4, nrm, strm, by8] at * <;> omega))) | (apply h0 <;> (repeat' (first | assumption | exact trivial | exact Un_rf | exact hI 4 _ _ _ | exact hI 9 _ _ _ | exact hI 22 _ _ _ | (refine ixr_by8 ?_ ?_) | (refine IV_upd ?_ ?_) | (refine Un_upd rfl ?_) | (refine IV_cpy ?_ (fun _ _ _ _ => trivial)) | (refine Un_cpy rfl ?_) | (apply Un_tr; rotate_left; assumption; rfl) | (refine And.intro ?_ ?_))) <;> (first | rfl | decide | (simp only [nrm, strm, by8] at * <;> omega) | (simp [upd4, cpy4, nrm, strm, by8] at * <;> omega))) | (apply h1 <;> (repeat' (first | assumption | exact trivial | exact Un_rf | exact hI 4 _ _ _ | exact hI 9 _ _ _ | exact hI 22 _ _ _ | (refine ixr_by8 ?_ ?_) | (refine IV_upd ?_ ?_) | (refine Un_upd rfl ?_) | (refine IV_cpy ?_ (fun _ _ _ _ => trivial)) | (refine Un_cpy rfl ?_) | (apply Un_tr; rotate_left; assumption; rfl) | (refine And.intro ?_ ?_))) <;> (first | rfl | decide | (simp only [nrm, strm, by8] at * <;> omega) | (simp [upd4, cpy4, nrm, strm, by8] at * <;> omega))) | ((repeat' (first | assumption | exact trivial | exact Un_rf | exact hI 4 _ _ _ | exact hI 9 _ _ _ | exact hI 22 _ _ _ | (refine ixr_by8 ?_ ?_) | (refine IV_upd ?_ ?_) | (refine Un_upd rfl ?_) | (refine IV_cpy ?_ (fun _ _ _ _ => trivial)) | (refine Un_cpy rfl ?_) | (apply Un_tr; rotate_left; assumption; rfl) | (refine And.intro ?_ ?_))) <;> (first | rfl | decide | (simp only [nrm, strm, by8] at * <;> omega) | (simp [upd4, cpy4, nrm, strm, by8] at * <;> omega)))
  · intro av σ K kx n pc L st σ' nc ns _ _ h
    exact (h : False).elim
def gt_FrameStreams_requireWithin (a : Nat) : Option Nat := match a with
  | _ => none
theorem go_FrameStreams_requireWithin : ∀ a v, gt_FrameStreams_requireWithin a = some v → StaOK R_FrameStreams a v := by
  intro a v h
  unfold gt_FrameStreams_requireWithin at h
  cases h
def pr_FrameStreams_requireWithin : List Ent := [(0, 3, 0, 0, 0), (1, 3, 1, 0, 0), (2, 34, 0, 0, 14), (5, 3, 0, 0, 0), (6, 3, 2, 0, 0), (7, 36, 0, 0, 14), (10, 0, 0, 1, 0), (11, 38, 0, 0, 15), (14, 0, 0, 0, 0), (15, 47, 147, 0, 0), (18, 49, 0, 0, 0)]
def sw_FrameStreams_requireWithin : List Swt := []
theorem dk_FrameStreams_requireWithin : ∀ q ∈ pr_FrameStreams_requireWithin, decode b_FrameStreams_requireWithin q.1 = .ok (dec sw_FrameStreams_requireWithin q) ∧ okE q = true := by decide +kernel
theorem nt_FrameStreams_requireWithin : ∀ q ∈ pr_FrameStreams_requireWithin, ¬ q.2.1 = 55 := by decide +kernel
def ct_FrameStreams_requireWithin (a : Nat) : Option (Nat × Nat × CSp × Nat × Nat) := match a with
  | 147 => some (1, 1000, sp_FrameStreams_requireArgument, 1, 6)
  | _ => none
theorem co_FrameStreams_requireWithin : ∀ a v, ct_FrameStreams_requireWithin a = some v → StcOK R_FrameStreams 7 109 a v := by
  intro a v h
  unfold ct_FrameStreams_requireWithin at h
  split at h
  · cases h; exact ⟨y_FrameStreams_requireArgument, b_FrameStreams_requireArgument, 1, none, 6, 89, 1, c_FrameStreams_requireArgument, by decide, by decide +kernel, by decide +kernel, by decide +kernel, (by first | exact Or.inr (Or.inl ⟨rfl, rfl, by decide +kernel, by decide +kernel⟩) | exact Or.inr (Or.inr ⟨rfl, rfl, ⟨"FrameStreams", by decide +kernel⟩, by decide +kernel⟩))⟩
  · cases h
/-- FrameStreams_requireWithin -/
def sp_FrameStreams_requireWithin : CSp := sIII (fun x0 x1 x2 σ K kx => (nrm x1 ≤ nrm x0 ∧ nrm x0 ≤ nrm x2 → K none σ) ∧ (¬ (nrm x1 ≤ nrm x0 ∧ nrm x0 ≤ nrm x2) → kx xIAE σ))
set_option maxHeartbeats 4000000 in
set_option maxRecDepth 100000 in
theorem c_FrameStreams_requireWithin : Ctr y_FrameStreams_requireWithin b_FrameStreams_requireWithin 3 none 7 109 1 6 sp_FrameStreams_requireWithin := by
  refine ctr_of (FT := ft_FrameStreams) (GT := gt_FrameStreams_requireWithin) (CT := ct_FrameStreams_requireWithin) (sw := sw_FrameStreams_requireWithin) (rt := 2) (pr := pr_FrameStreams_requireWithin) (by decide) [] (fun _ _ _ _ _ _ _ _ _ _ _ => False) 30 ⟨fun h => absurd h (by decide), fun h => absurd h (by decide), fun _ => rfl, fun h => absurd h (by decide)⟩ dk_FrameStreams_requireWithin fo_FrameStreams go_FrameStreams_requireWithin co_FrameStreams_requireWithin (fun a k h hk => by unfold gt_FrameStreams_requireWithin at h; cases h) (fun q hq h => absurd h (nt_FrameStreams_requireWithin q hq)) (fun av σ K kx h => by rw [sIII_len h]; decide) ?_ ?_
  · intro av σ K kx hok hSp
    obtain ⟨x0, x1, x2, rfl, hp⟩ := sIII_inv hSp
    obtain ⟨h0, h1⟩ := hp
    all_goals (repeat' (first | (with_reducible assumption) | (with_reducible refine IV_upd ?_ ?_) | (with_reducible refine IV_cpy ?_ (fun _ _ _ _ => trivial)) | (refine And.intro ?_ ?_) | (intro _)))
    all_goals first | (first | rfl | decide | (simp only [nrm, strm, by8] at * <;> omega) | (simp [upd4, cpy4, nrm, strm, by8] at * <;> omega)) | (exact h0 (by first | assumption | (first | rfl | decide | (simp only [nrm, strm, by8] at * <;> omega) | (simp [upd4, cpy4, nrm, strm, by8] at * <;> omega)))) | (exact h1 (by first | assumption | (first | rfl | decide | (simp only [nrm, strm, by8] at * <;> omega) | (simp [upd4, cpy4, nrm, strm, by8] at * <;> omega)))) | (exact h0) | (exact h1) | (refine h0 _ ?_ ?_ <;> (repeat' (first | assumption | exact trivial | exact Un_rf | exact hI 4 _ _ _ | exact hI 9 _ _ _ | exact hI 22 _ _ _ | (refine ixr_by8 ?_ ?_) | (refine IV_upd ?_ ?_) | (refine Un_upd rfl ?_) | (refine IV_cpy ?_ (fun _ _ _ _ => trivial)) | (refine Un_cpy rfl ?_) | (apply Un_tr; rotate_left; assumption; rfl) | (refine And.intro ?_ ?_))) <;> (first | rfl | decide | (simp only [nrm, strm, by8] at * <;> omega) | (simp [upd4, cpy4, nrm, strm, by8] at * <;> omega))) | (refine h1 _ ?_ ?_ <;> (repeat' (first | assumption | exact trivial | exact Un_rf | exact hI 4 _ _ _ | exact hI 9 _ _ _ | exact hI 22 _ _ _ | (refine ixr_by8 ?_ ?_) | (refine IV_upd ?_ ?_) | (refine Un_upd rfl ?_) | (refine IV_cpy ?_ (fun _ _ _ _ => trivial)) | (refine Un_cpy rfl ?_) | (apply Un_tr; rotate_left; assumption; rfl) | (refine And.intro ?_ ?_))) <;> (first | rfl | decide | (simp only [nrm, strm, by8] at * <;> omega) | (simp [upd4, cpy4, nrm, strm, by8] at * <;> omega))) | (apply h0 <;> (repeat' (first | assumption | exact trivial | exact Un_rf | exact hI 4 _ _ _ | exact hI 9 _ _ _ | exact hI 22 _ _ _ | (refine ixr_by8 ?_ ?_) | (refine IV_upd ?_ ?_) | (refine Un_upd rfl ?_) | (refine IV_cpy ?_ (fun _ _ _ _ => trivial)) | (refine Un_cpy rfl ?_) | (apply Un_tr; rotate_left; assumption; rfl) | (refine And.intro ?_ ?_))) <;> (first | rfl | decide | (simp only [nrm, strm, by8] at * <;> omega) | (simp [upd4, cpy4, nrm, strm, by8] at * <;> omega))) | (apply h1 <;> (repeat' (first | assumption | exact trivial | exact Un_rf | exact hI 4 _ _ _ | exact hI 9 _ _ _ | exact hI 22 _ _ _ | (refine ixr_by8 ?_ ?_) | (refine IV_upd ?_ ?_) | (refine Un_upd rfl ?_) | (refine IV_cpy ?_ (fun _ _ _ _ => trivial)) | (refine Un_cpy rfl ?_) | (apply Un_tr; rotate_left; assumption; rfl) | (refine And.intro ?_ ?_))) <;> (first | rfl | decide | (simp only [nrm, strm, by8] at * <;> omega) | (simp [upd4, cpy4, nrm, strm, by8] at * <;> omega))) | ((repeat' (first | assumption | exact trivial | exact Un_rf | exact hI 4 _ _ _ | exact hI 9 _ _ _ | exact hI 22 _ _ _ | (refine ixr_by8 ?_ ?_) | (refine IV_upd ?_ ?_) | (refine Un_upd rfl ?_) | (refine IV_cpy ?_ (fun _ _ _ _ => trivial)) | (refine Un_cpy rfl ?_) | (apply Un_tr; rotate_left; assumption; rfl) | (refine And.intro ?_ ?_))) <;> (first | rfl | decide | (simp only [nrm, strm, by8] at * <;> omega) | (simp [upd4, cpy4, nrm, strm, by8] at * <;> omega)))
  · intro av σ K kx n pc L st σ' nc ns _ _ h
    exact (h : False).elim
def gt_FrameStreams_requireStream (a : Nat) : Option Nat := match a with
  | _ => none
theorem go_FrameStreams_requireStream : ∀ a v, gt_FrameStreams_requireStream a = some v → StaOK R_FrameStreams a v := by
  intro a v h
  unfold gt_FrameStreams_requireStream at h
  cases h
def pr_FrameStreams_requireStream : List Ent := [(0, 3, 0, 0, 0), (1, 47, 169, 0, 0), (4, 47, 147, 0, 0), (7, 49, 0, 0, 0)]
def sw_FrameStreams_requireStream : List Swt := []
theorem dk_FrameStreams_requireStream : ∀ q ∈ pr_FrameStreams_requireStream, decode b_FrameStreams_requireStream q.1 = .ok (dec sw_FrameStreams_requireStream q) ∧ okE q = true := by decide +kernel
theorem nt_FrameStreams_requireStream : ∀ q ∈ pr_FrameStreams_requireStream, ¬ q.2.1 = 55 := by decide +kernel
def ct_FrameStreams_requireStream (a : Nat) : Option (Nat × Nat × CSp × Nat × Nat) := match a with
  | 147 => some (1, 1000, sp_FrameStreams_requireArgument, 1, 6)
  | 169 => some (1, 1000, sp_FrameStreams_isStream, 0, 0)
  | _ => none
theorem co_FrameStreams_requireStream : ∀ a v, ct_FrameStreams_requireStream a = some v → StcOK R_FrameStreams 7 109 a v := by
  intro a v h
  unfold ct_FrameStreams_requireStream at h
  split at h
  · cases h; exact ⟨y_FrameStreams_requireArgument, b_FrameStreams_requireArgument, 1, none, 6, 89, 1, c_FrameStreams_requireArgument, by decide, by decide +kernel, by decide +kernel, by decide +kernel, (by first | exact Or.inr (Or.inl ⟨rfl, rfl, by decide +kernel, by decide +kernel⟩) | exact Or.inr (Or.inr ⟨rfl, rfl, ⟨"FrameStreams", by decide +kernel⟩, by decide +kernel⟩))⟩
  · cases h; exact ⟨y_FrameStreams_isStream, b_FrameStreams_isStream, 1, (some .boolean), 0, 0, 1, c_FrameStreams_isStream, by decide, by decide +kernel, by decide +kernel, by decide +kernel, (by first | exact Or.inr (Or.inl ⟨rfl, rfl, by decide +kernel, by decide +kernel⟩) | exact Or.inr (Or.inr ⟨rfl, rfl, ⟨"FrameStreams", by decide +kernel⟩, by decide +kernel⟩))⟩
  · cases h
/-- FrameStreams_requireStream -/
def sp_FrameStreams_requireStream : CSp := sI (fun x0 σ K kx => (strm x0 → K none σ) ∧ (¬ strm x0 → kx xIAE σ))
set_option maxHeartbeats 4000000 in
set_option maxRecDepth 100000 in
theorem c_FrameStreams_requireStream : Ctr y_FrameStreams_requireStream b_FrameStreams_requireStream 1 none 7 109 1 6 sp_FrameStreams_requireStream := by
  refine ctr_of (FT := ft_FrameStreams) (GT := gt_FrameStreams_requireStream) (CT := ct_FrameStreams_requireStream) (sw := sw_FrameStreams_requireStream) (rt := 2) (pr := pr_FrameStreams_requireStream) (by decide) [] (fun _ _ _ _ _ _ _ _ _ _ _ => False) 20 ⟨fun h => absurd h (by decide), fun h => absurd h (by decide), fun _ => rfl, fun h => absurd h (by decide)⟩ dk_FrameStreams_requireStream fo_FrameStreams go_FrameStreams_requireStream co_FrameStreams_requireStream (fun a k h hk => by unfold gt_FrameStreams_requireStream at h; cases h) (fun q hq h => absurd h (nt_FrameStreams_requireStream q hq)) (fun av σ K kx h => by rw [sI_len h]; decide) ?_ ?_
  · intro av σ K kx hok hSp
    obtain ⟨x0, rfl, hp⟩ := sI_inv hSp
    obtain ⟨h0, h1⟩ := hp
    all_goals (repeat' (first | (with_reducible assumption) | (with_reducible refine IV_upd ?_ ?_) | (with_reducible refine IV_cpy ?_ (fun _ _ _ _ => trivial)) | (refine And.intro ?_ ?_) | (intro _)))
    all_goals first | (first | rfl | decide | (simp only [nrm, strm, by8] at * <;> omega) | (simp [upd4, cpy4, nrm, strm, by8] at * <;> omega)) | (exact h0 (by first | assumption | (first | rfl | decide | (simp only [nrm, strm, by8] at * <;> omega) | (simp [upd4, cpy4, nrm, strm, by8] at * <;> omega)))) | (exact h1 (by first | assumption | (first | rfl | decide | (simp only [nrm, strm, by8] at * <;> omega) | (simp [upd4, cpy4, nrm, strm, by8] at * <;> omega)))) | (exact h0) | (exact h1) | (refine h0 _ ?_ ?_ <;> (repeat' (first | assumption | exact trivial | exact Un_rf | exact hI 4 _ _ _ | exact hI 9 _ _ _ | exact hI 22 _ _ _ | (refine ixr_by8 ?_ ?_) | (refine IV_upd ?_ ?_) | (refine Un_upd rfl ?_) | (refine IV_cpy ?_ (fun _ _ _ _ => trivial)) | (refine Un_cpy rfl ?_) | (apply Un_tr; rotate_left; assumption; rfl) | (refine And.intro ?_ ?_))) <;> (first | rfl | decide | (simp only [nrm, strm, by8] at * <;> omega) | (simp [upd4, cpy4, nrm, strm, by8] at * <;> omega))) | (refine h1 _ ?_ ?_ <;> (repeat' (first | assumption | exact trivial | exact Un_rf | exact hI 4 _ _ _ | exact hI 9 _ _ _ | exact hI 22 _ _ _ | (refine ixr_by8 ?_ ?_) | (refine IV_upd ?_ ?_) | (refine Un_upd rfl ?_) | (refine IV_cpy ?_ (fun _ _ _ _ => trivial)) | (refine Un_cpy rfl ?_) | (apply Un_tr; rotate_left; assumption; rfl) | (refine And.intro ?_ ?_))) <;> (first | rfl | decide | (simp only [nrm, strm, by8] at * <;> omega) | (simp [upd4, cpy4, nrm, strm, by8] at * <;> omega))) | (apply h0 <;> (repeat' (first | assumption | exact trivial | exact Un_rf | exact hI 4 _ _ _ | exact hI 9 _ _ _ | exact hI 22 _ _ _ | (refine ixr_by8 ?_ ?_) | (refine IV_upd ?_ ?_) | (refine Un_upd rfl ?_) | (refine IV_cpy ?_ (fun _ _ _ _ => trivial)) | (refine Un_cpy rfl ?_) | (apply Un_tr; rotate_left; assumption; rfl) | (refine And.intro ?_ ?_))) <;> (first | rfl | decide | (simp only [nrm, strm, by8] at * <;> omega) | (simp [upd4, cpy4, nrm, strm, by8] at * <;> omega))) | (apply h1 <;> (repeat' (first | assumption | exact trivial | exact Un_rf | exact hI 4 _ _ _ | exact hI 9 _ _ _ | exact hI 22 _ _ _ | (refine ixr_by8 ?_ ?_) | (refine IV_upd ?_ ?_) | (refine Un_upd rfl ?_) | (refine IV_cpy ?_ (fun _ _ _ _ => trivial)) | (refine Un_cpy rfl ?_) | (apply Un_tr; rotate_left; assumption; rfl) | (refine And.intro ?_ ?_))) <;> (first | rfl | decide | (simp only [nrm, strm, by8] at * <;> omega) | (simp [upd4, cpy4, nrm, strm, by8] at * <;> omega))) | ((repeat' (first | assumption | exact trivial | exact Un_rf | exact hI 4 _ _ _ | exact hI 9 _ _ _ | exact hI 22 _ _ _ | (refine ixr_by8 ?_ ?_) | (refine IV_upd ?_ ?_) | (refine Un_upd rfl ?_) | (refine IV_cpy ?_ (fun _ _ _ _ => trivial)) | (refine Un_cpy rfl ?_) | (apply Un_tr; rotate_left; assumption; rfl) | (refine And.intro ?_ ?_))) <;> (first | rfl | decide | (simp only [nrm, strm, by8] at * <;> omega) | (simp [upd4, cpy4, nrm, strm, by8] at * <;> omega)))
  · intro av σ K kx n pc L st σ' nc ns _ _ h
    exact (h : False).elim
def gt_FrameStreams_requireStreamOrConnection (a : Nat) : Option Nat := match a with
  | _ => none
theorem go_FrameStreams_requireStreamOrConnection : ∀ a v, gt_FrameStreams_requireStreamOrConnection a = some v → StaOK R_FrameStreams a v := by
  intro a v h
  unfold gt_FrameStreams_requireStreamOrConnection at h
  cases h
def pr_FrameStreams_requireStreamOrConnection : List Ent := [(0, 3, 0, 0, 0), (1, 26, 0, 0, 11), (4, 3, 0, 0, 0), (5, 47, 169, 0, 0), (8, 26, 0, 0, 15), (11, 0, 0, 1, 0), (12, 38, 0, 0, 16), (15, 0, 0, 0, 0), (16, 47, 147, 0, 0), (19, 49, 0, 0, 0)]
def sw_FrameStreams_requireStreamOrConnection : List Swt := []
theorem dk_FrameStreams_requireStreamOrConnection : ∀ q ∈ pr_FrameStreams_requireStreamOrConnection, decode b_FrameStreams_requireStreamOrConnection q.1 = .ok (dec sw_FrameStreams_requireStreamOrConnection q) ∧ okE q = true := by decide +kernel
theorem nt_FrameStreams_requireStreamOrConnection : ∀ q ∈ pr_FrameStreams_requireStreamOrConnection, ¬ q.2.1 = 55 := by decide +kernel
def ct_FrameStreams_requireStreamOrConnection (a : Nat) : Option (Nat × Nat × CSp × Nat × Nat) := match a with
  | 147 => some (1, 1000, sp_FrameStreams_requireArgument, 1, 6)
  | 169 => some (1, 1000, sp_FrameStreams_isStream, 0, 0)
  | _ => none
theorem co_FrameStreams_requireStreamOrConnection : ∀ a v, ct_FrameStreams_requireStreamOrConnection a = some v → StcOK R_FrameStreams 7 109 a v := by
  intro a v h
  unfold ct_FrameStreams_requireStreamOrConnection at h
  split at h
  · cases h; exact ⟨y_FrameStreams_requireArgument, b_FrameStreams_requireArgument, 1, none, 6, 89, 1, c_FrameStreams_requireArgument, by decide, by decide +kernel, by decide +kernel, by decide +kernel, (by first | exact Or.inr (Or.inl ⟨rfl, rfl, by decide +kernel, by decide +kernel⟩) | exact Or.inr (Or.inr ⟨rfl, rfl, ⟨"FrameStreams", by decide +kernel⟩, by decide +kernel⟩))⟩
  · cases h; exact ⟨y_FrameStreams_isStream, b_FrameStreams_isStream, 1, (some .boolean), 0, 0, 1, c_FrameStreams_isStream, by decide, by decide +kernel, by decide +kernel, by decide +kernel, (by first | exact Or.inr (Or.inl ⟨rfl, rfl, by decide +kernel, by decide +kernel⟩) | exact Or.inr (Or.inr ⟨rfl, rfl, ⟨"FrameStreams", by decide +kernel⟩, by decide +kernel⟩))⟩
  · cases h
/-- FrameStreams_requireStreamOrConnection -/
def sp_FrameStreams_requireStreamOrConnection : CSp := sI (fun x0 σ K kx => (nrm x0 = 0 ∨ strm x0 → K none σ) ∧ (¬ (nrm x0 = 0 ∨ strm x0) → kx xIAE σ))
set_option maxHeartbeats 4000000 in
set_option maxRecDepth 100000 in
theorem c_FrameStreams_requireStreamOrConnection : Ctr y_FrameStreams_requireStreamOrConnection b_FrameStreams_requireStreamOrConnection 1 none 7 109 1 6 sp_FrameStreams_requireStreamOrConnection := by
  refine ctr_of (FT := ft_FrameStreams) (GT := gt_FrameStreams_requireStreamOrConnection) (CT := ct_FrameStreams_requireStreamOrConnection) (sw := sw_FrameStreams_requireStreamOrConnection) (rt := 2) (pr := pr_FrameStreams_requireStreamOrConnection) (by decide) [] (fun _ _ _ _ _ _ _ _ _ _ _ => False) 30 ⟨fun h => absurd h (by decide), fun h => absurd h (by decide), fun _ => rfl, fun h => absurd h (by decide)⟩ dk_FrameStreams_requireStreamOrConnection fo_FrameStreams go_FrameStreams_requireStreamOrConnection co_FrameStreams_requireStreamOrConnection (fun a k h hk => by unfold gt_FrameStreams_requireStreamOrConnection at h; cases h) (fun q hq h => absurd h (nt_FrameStreams_requireStreamOrConnection q hq)) (fun av σ K kx h => by rw [sI_len h]; decide) ?_ ?_
  · intro av σ K kx hok hSp
    obtain ⟨x0, rfl, hp⟩ := sI_inv hSp
    obtain ⟨h0, h1⟩ := hp
    all_goals (repeat' (first | (with_reducible assumption) | (with_reducible refine IV_upd ?_ ?_) | (with_reducible refine IV_cpy ?_ (fun _ _ _ _ => trivial)) | (refine And.intro ?_ ?_) | (intro _)))
    all_goals first | (first | rfl | decide | (simp only [nrm, strm, by8] at * <;> omega) | (simp [upd4, cpy4, nrm, strm, by8] at * <;> omega)) | (exact h0 (by first | assumption | (first | rfl | decide | (simp only [nrm, strm, by8] at * <;> omega) | (simp [upd4, cpy4, nrm, strm, by8] at * <;> omega)))) | (exact h1 (by first | assumption | (first | rfl | decide | (simp only [nrm, strm, by8] at * <;> omega) | (simp [upd4, cpy4, nrm, strm, by8] at * <;> omega)))) | (exact h0) | (exact h1) | (refine h0 _ ?_ ?_ <;> (repeat' (first | assumption | exact trivial | exact Un_rf | exact hI 4 _ _ _ | exact hI 9 _ _ _ | exact hI 22 _ _ _ | (refine ixr_by8 ?_ ?_) | (refine IV_upd ?_ ?_) | (refine Un_upd rfl ?_) | (refine IV_cpy ?_ (fun _ _ _ _ => trivial)) | (refine Un_cpy rfl ?_) | (apply Un_tr; rotate_left; assumption; rfl) | (refine And.intro ?_ ?_))) <;> (first | rfl | decide | (simp only [nrm, strm, by8] at * <;> omega) | (simp [upd4, cpy4, nrm, strm, by8] at * <;> omega))) | (refine h1 _ ?_ ?_ <;> (repeat' (first | assumption | exact trivial | exact Un_rf | exact hI 4 _ _ _ | exact hI 9 _ _ _ | exact hI 22 _ _ _ | (refine ixr_by8 ?_ ?_) | (refine IV_upd ?_ ?_) | (refine Un_upd rfl ?_) | (refine IV_cpy ?_ (fun _ _ _ _ => trivial)) | (refine Un_cpy rfl ?_) | (apply Un_tr; rotate_left; assumption; rfl) | (refine And.intro ?_ ?_))) <;> (first | rfl | decide | (simp only [nrm, strm, by8] at * <;> omega) | (simp [upd4, cpy4, nrm, strm, by8] at * <;> omega))) | (apply h0 <;> (repeat' (first | assumption | exact trivial | exact Un_rf | exact hI 4 _ _ _ | exact hI 9 _ _ _ | exact hI 22 _ _ _ | (refine ixr_by8 ?_ ?_) | (refine IV_upd ?_ ?_) | (refine Un_upd rfl ?_) | (refine IV_cpy ?_ (fun _ _ _ _ => trivial)) | (refine Un_cpy rfl ?_) | (apply Un_tr; rotate_left; assumption; rfl) | (refine And.intro ?_ ?_))) <;> (first | rfl | decide | (simp only [nrm, strm, by8] at * <;> omega) | (simp [upd4, cpy4, nrm, strm, by8] at * <;> omega))) | (apply h1 <;> (repeat' (first | assumption | exact trivial | exact Un_rf | exact hI 4 _ _ _ | exact hI 9 _ _ _ | exact hI 22 _ _ _ | (refine ixr_by8 ?_ ?_) | (refine IV_upd ?_ ?_) | (refine Un_upd rfl ?_) | (refine IV_cpy ?_ (fun _ _ _ _ => trivial)) | (refine Un_cpy rfl ?_) | (apply Un_tr; rotate_left; assumption; rfl) | (refine And.intro ?_ ?_))) <;> (first | rfl | decide | (simp only [nrm, strm, by8] at * <;> omega) | (simp [upd4, cpy4, nrm, strm, by8] at * <;> omega))) | ((repeat' (first | assumption | exact trivial | exact Un_rf | exact hI 4 _ _ _ | exact hI 9 _ _ _ | exact hI 22 _ _ _ | (refine ixr_by8 ?_ ?_) | (refine IV_upd ?_ ?_) | (refine Un_upd rfl ?_) | (refine IV_cpy ?_ (fun _ _ _ _ => trivial)) | (refine Un_cpy rfl ?_) | (apply Un_tr; rotate_left; assumption; rfl) | (refine And.intro ?_ ?_))) <;> (first | rfl | decide | (simp only [nrm, strm, by8] at * <;> omega) | (simp [upd4, cpy4, nrm, strm, by8] at * <;> omega)))
  · intro av σ K kx n pc L st σ' nc ns _ _ h
    exact (h : False).elim
def ft_Wire (a : Nat) : Option (Nat × Nat × Nat) := match a with
  | 9 => some (8, 0, 2)
  | 15 => some (8, 1, 0)
  | 19 => some (8, 2, 0)
  | _ => none
theorem fo_Wire : ∀ a v, ft_Wire a = some v → FldOK R_Wire a v := by
  intro a v h
  unfold ft_Wire at h
  split at h
  · cases h; exact fl_Wire _ _ _ _ (by decide) (by decide +kernel) (by decide)
  · cases h; exact fl_Wire _ _ _ _ (by decide) (by decide +kernel) (by decide)
  · cases h; exact fl_Wire _ _ _ _ (by decide) (by decide +kernel) (by decide)
  · cases h
def gt_Wire_count (a : Nat) : Option Nat := match a with
  | _ => none
theorem go_Wire_count : ∀ a v, gt_Wire_count a = some v → StaOK R_Wire a v := by
  intro a v h
  unfold gt_Wire_count at h
  cases h
def pr_Wire_count : List Ent := [(0, 5, 0, 0, 0), (1, 39, 19, 0, 0), (4, 48, 0, 0, 0)]
def sw_Wire_count : List Swt := []
theorem dk_Wire_count : ∀ q ∈ pr_Wire_count, decode b_Wire_count q.1 = .ok (dec sw_Wire_count q) ∧ okE q = true := by decide +kernel
theorem nt_Wire_count : ∀ q ∈ pr_Wire_count, ¬ q.2.1 = 55 := by decide +kernel
def ct_Wire_count (a : Nat) : Option (Nat × Nat × CSp × Nat × Nat) := match a with
  | _ => none
theorem co_Wire_count : ∀ a v, ct_Wire_count a = some v → StcOK R_Wire 0 0 a v := by
  intro a v h
  unfold ct_Wire_count at h
  cases h
/-- Wire_count -/
def sp_Wire_count : CSp := sR (fun q σ K _ => q.1 = 3 ∧ K (some (.inl (σ q.1 q.2.1 q.2.2 2))) σ)
set_option maxHeartbeats 4000000 in
set_option maxRecDepth 100000 in
theorem c_Wire_count : Ctr y_Wire_count b_Wire_count 1 (some .int) 0 0 0 0 sp_Wire_count := by
  refine ctr_of (FT := ft_Wire) (GT := gt_Wire_count) (CT := ct_Wire_count) (sw := sw_Wire_count) (rt := 0) (pr := pr_Wire_count) (by decide) [] (fun _ _ _ _ _ _ _ _ _ _ _ => False) 20 ⟨fun _ => rfl, fun h => absurd h (by decide), fun h => absurd h (by decide), fun h => absurd h (by decide)⟩ dk_Wire_count fo_Wire go_Wire_count co_Wire_count (fun a k h hk => by unfold gt_Wire_count at h; cases h) (fun q hq h => absurd h (nt_Wire_count q hq)) (fun av σ K kx h => by rw [sR_len h]; decide) ?_ ?_
  · intro av σ K kx hok hSp
    obtain ⟨q0, rfl, hp⟩ := sR_inv hSp
    obtain ⟨k0, e0, i0⟩ := q0
    obtain ⟨h0, h1⟩ := hp
    dsimp only at h0; subst h0
    all_goals (repeat' (first | (with_reducible assumption) | (with_reducible refine IV_upd ?_ ?_) | (with_reducible refine IV_cpy ?_ (fun _ _ _ _ => trivial)) | (refine And.intro ?_ ?_) | (intro _)))
    all_goals first | (first | rfl | decide | (simp only [nrm, strm, by8] at * <;> omega) | (simp [upd4, cpy4, nrm, strm, by8] at * <;> omega)) | (exact h1 (by first | assumption | (first | rfl | decide | (simp only [nrm, strm, by8] at * <;> omega) | (simp [upd4, cpy4, nrm, strm, by8] at * <;> omega)))) | (exact h1) | (refine h1 _ ?_ ?_ <;> (repeat' (first | assumption | exact trivial | exact Un_rf | exact hI 4 _ _ _ | exact hI 9 _ _ _ | exact hI 22 _ _ _ | (refine ixr_by8 ?_ ?_) | (refine IV_upd ?_ ?_) | (refine Un_upd rfl ?_) | (refine IV_cpy ?_ (fun _ _ _ _ => trivial)) | (refine Un_cpy rfl ?_) | (apply Un_tr; rotate_left; assumption; rfl) | (refine And.intro ?_ ?_))) <;> (first | rfl | decide | (simp only [nrm, strm, by8] at * <;> omega) | (simp [upd4, cpy4, nrm, strm, by8] at * <;> omega))) | (apply h1 <;> (repeat' (first | assumption | exact trivial | exact Un_rf | exact hI 4 _ _ _ | exact hI 9 _ _ _ | exact hI 22 _ _ _ | (refine ixr_by8 ?_ ?_) | (refine IV_upd ?_ ?_) | (refine Un_upd rfl ?_) | (refine IV_cpy ?_ (fun _ _ _ _ => trivial)) | (refine Un_cpy rfl ?_) | (apply Un_tr; rotate_left; assumption; rfl) | (refine And.intro ?_ ?_))) <;> (first | rfl | decide | (simp only [nrm, strm, by8] at * <;> omega) | (simp [upd4, cpy4, nrm, strm, by8] at * <;> omega))) | ((repeat' (first | assumption | exact trivial | exact Un_rf | exact hI 4 _ _ _ | exact hI 9 _ _ _ | exact hI 22 _ _ _ | (refine ixr_by8 ?_ ?_) | (refine IV_upd ?_ ?_) | (refine Un_upd rfl ?_) | (refine IV_cpy ?_ (fun _ _ _ _ => trivial)) | (refine Un_cpy rfl ?_) | (apply Un_tr; rotate_left; assumption; rfl) | (refine And.intro ?_ ?_))) <;> (first | rfl | decide | (simp only [nrm, strm, by8] at * <;> omega) | (simp [upd4, cpy4, nrm, strm, by8] at * <;> omega)))
  · intro av σ K kx n pc L st σ' nc ns _ _ h
    exact (h : False).elim
def gt_Wire_hasRoom (a : Nat) : Option Nat := match a with
  | _ => none
theorem go_Wire_hasRoom : ∀ a v, gt_Wire_hasRoom a = some v → StaOK R_Wire a v := by
  intro a v h
  unfold gt_Wire_hasRoom at h
  cases h
def pr_Wire_hasRoom : List Ent := [(0, 5, 0, 0, 0), (1, 39, 19, 0, 0), (4, 3, 1, 0, 0), (5, 12, 0, 0, 0), (6, 2, 0, 240, 0), (9, 36, 0, 0, 16), (12, 0, 0, 1, 0), (13, 38, 0, 0, 17), (16, 0, 0, 0, 0), (17, 48, 0, 0, 0)]
def sw_Wire_hasRoom : List Swt := []
theorem dk_Wire_hasRoom : ∀ q ∈ pr_Wire_hasRoom, decode b_Wire_hasRoom q.1 = .ok (dec sw_Wire_hasRoom q) ∧ okE q = true := by decide +kernel
theorem nt_Wire_hasRoom : ∀ q ∈ pr_Wire_hasRoom, ¬ q.2.1 = 55 := by decide +kernel
def ct_Wire_hasRoom (a : Nat) : Option (Nat × Nat × CSp × Nat × Nat) := match a with
  | _ => none
theorem co_Wire_hasRoom : ∀ a v, ct_Wire_hasRoom a = some v → StcOK R_Wire 0 0 a v := by
  intro a v h
  unfold ct_Wire_hasRoom at h
  cases h
/-- Wire_hasRoom -/
def sp_Wire_hasRoom : CSp := sRI (fun q x σ K _ => q.1 = 3 ∧ (nrm (σ q.1 q.2.1 q.2.2 2 + x) ≤ 240 → K (some (.inl 1)) σ) ∧ (240 < nrm (σ q.1 q.2.1 q.2.2 2 + x) → K (some (.inl 0)) σ))
set_option maxHeartbeats 4000000 in
set_option maxRecDepth 100000 in
theorem c_Wire_hasRoom : Ctr y_Wire_hasRoom b_Wire_hasRoom 2 (some .boolean) 0 0 0 0 sp_Wire_hasRoom := by
  refine ctr_of (FT := ft_Wire) (GT := gt_Wire_hasRoom) (CT := ct_Wire_hasRoom) (sw := sw_Wire_hasRoom) (rt := 1) (pr := pr_Wire_hasRoom) (by decide) [] (fun _ _ _ _ _ _ _ _ _ _ _ => False) 30 ⟨fun h => absurd h (by decide), fun _ => rfl, fun h => absurd h (by decide), fun h => absurd h (by decide)⟩ dk_Wire_hasRoom fo_Wire go_Wire_hasRoom co_Wire_hasRoom (fun a k h hk => by unfold gt_Wire_hasRoom at h; cases h) (fun q hq h => absurd h (nt_Wire_hasRoom q hq)) (fun av σ K kx h => by rw [sRI_len h]; decide) ?_ ?_
  · intro av σ K kx hok hSp
    obtain ⟨q0, x0, rfl, hp⟩ := sRI_inv hSp
    obtain ⟨k0, e0, i0⟩ := q0
    obtain ⟨h0, h1, h2⟩ := hp
    dsimp only at h0; subst h0
    all_goals (repeat' (first | (with_reducible assumption) | (with_reducible refine IV_upd ?_ ?_) | (with_reducible refine IV_cpy ?_ (fun _ _ _ _ => trivial)) | (refine And.intro ?_ ?_) | (intro _)))
    all_goals first | (first | rfl | decide | (simp only [nrm, strm, by8] at * <;> omega) | (simp [upd4, cpy4, nrm, strm, by8] at * <;> omega)) | (exact h1 (by first | assumption | (first | rfl | decide | (simp only [nrm, strm, by8] at * <;> omega) | (simp [upd4, cpy4, nrm, strm, by8] at * <;> omega)))) | (exact h2 (by first | assumption | (first | rfl | decide | (simp only [nrm, strm, by8] at * <;> omega) | (simp [upd4, cpy4, nrm, strm, by8] at * <;> omega)))) | (exact h1) | (exact h2) | (refine h1 _ ?_ ?_ <;> (repeat' (first | assumption | exact trivial | exact Un_rf | exact hI 4 _ _ _ | exact hI 9 _ _ _ | exact hI 22 _ _ _ | (refine ixr_by8 ?_ ?_) | (refine IV_upd ?_ ?_) | (refine Un_upd rfl ?_) | (refine IV_cpy ?_ (fun _ _ _ _ => trivial)) | (refine Un_cpy rfl ?_) | (apply Un_tr; rotate_left; assumption; rfl) | (refine And.intro ?_ ?_))) <;> (first | rfl | decide | (simp only [nrm, strm, by8] at * <;> omega) | (simp [upd4, cpy4, nrm, strm, by8] at * <;> omega))) | (refine h2 _ ?_ ?_ <;> (repeat' (first | assumption | exact trivial | exact Un_rf | exact hI 4 _ _ _ | exact hI 9 _ _ _ | exact hI 22 _ _ _ | (refine ixr_by8 ?_ ?_) | (refine IV_upd ?_ ?_) | (refine Un_upd rfl ?_) | (refine IV_cpy ?_ (fun _ _ _ _ => trivial)) | (refine Un_cpy rfl ?_) | (apply Un_tr; rotate_left; assumption; rfl) | (refine And.intro ?_ ?_))) <;> (first | rfl | decide | (simp only [nrm, strm, by8] at * <;> omega) | (simp [upd4, cpy4, nrm, strm, by8] at * <;> omega))) | (apply h1 <;> (repeat' (first | assumption | exact trivial | exact Un_rf | exact hI 4 _ _ _ | exact hI 9 _ _ _ | exact hI 22 _ _ _ | (refine ixr_by8 ?_ ?_) | (refine IV_upd ?_ ?_) | (refine Un_upd rfl ?_) | (refine IV_cpy ?_ (fun _ _ _ _ => trivial)) | (refine Un_cpy rfl ?_) | (apply Un_tr; rotate_left; assumption; rfl) | (refine And.intro ?_ ?_))) <;> (first | rfl | decide | (simp only [nrm, strm, by8] at * <;> omega) | (simp [upd4, cpy4, nrm, strm, by8] at * <;> omega))) | (apply h2 <;> (repeat' (first | assumption | exact trivial | exact Un_rf | exact hI 4 _ _ _ | exact hI 9 _ _ _ | exact hI 22 _ _ _ | (refine ixr_by8 ?_ ?_) | (refine IV_upd ?_ ?_) | (refine Un_upd rfl ?_) | (refine IV_cpy ?_ (fun _ _ _ _ => trivial)) | (refine Un_cpy rfl ?_) | (apply Un_tr; rotate_left; assumption; rfl) | (refine And.intro ?_ ?_))) <;> (first | rfl | decide | (simp only [nrm, strm, by8] at * <;> omega) | (simp [upd4, cpy4, nrm, strm, by8] at * <;> omega))) | ((repeat' (first | assumption | exact trivial | exact Un_rf | exact hI 4 _ _ _ | exact hI 9 _ _ _ | exact hI 22 _ _ _ | (refine ixr_by8 ?_ ?_) | (refine IV_upd ?_ ?_) | (refine Un_upd rfl ?_) | (refine IV_cpy ?_ (fun _ _ _ _ => trivial)) | (refine Un_cpy rfl ?_) | (apply Un_tr; rotate_left; assumption; rfl) | (refine And.intro ?_ ?_))) <;> (first | rfl | decide | (simp only [nrm, strm, by8] at * <;> omega) | (simp [upd4, cpy4, nrm, strm, by8] at * <;> omega)))
  · intro av σ K kx n pc L st σ' nc ns _ _ h
    exact (h : False).elim
def gt_Wire_put (a : Nat) : Option Nat := match a with
  | _ => none
theorem go_Wire_put : ∀ a v, gt_Wire_put a = some v → StaOK R_Wire a v := by
  intro a v h
  unfold gt_Wire_put at h
  cases h
def pr_Wire_put : List Ent := [(0, 5, 0, 0, 0), (1, 39, 19, 0, 0), (4, 2, 0, 240, 0), (7, 35, 0, 0, 39), (10, 5, 0, 0, 0), (11, 39, 9, 0, 0), (14, 5, 0, 0, 0), (15, 39, 15, 0, 0), (18, 5, 0, 0, 0), (19, 39, 19, 0, 0), (22, 12, 0, 0, 0), (23, 2, 0, 240, 0), (26, 17, 0, 0, 0), (27, 3, 1, 0, 0), (28, 42, 0, 0, 0), (29, 5, 0, 0, 0), (30, 23, 0, 0, 0), (31, 39, 19, 0, 0), (34, 0, 0, 1, 0), (35, 12, 0, 0, 0), (36, 40, 19, 0, 0), (39, 49, 0, 0, 0)]
def sw_Wire_put : List Swt := []
theorem dk_Wire_put : ∀ q ∈ pr_Wire_put, decode b_Wire_put q.1 = .ok (dec sw_Wire_put q) ∧ okE q = true := by decide +kernel
theorem nt_Wire_put : ∀ q ∈ pr_Wire_put, ¬ q.2.1 = 55 := by decide +kernel
def ct_Wire_put (a : Nat) : Option (Nat × Nat × CSp × Nat × Nat) := match a with
  | _ => none
theorem co_Wire_put : ∀ a v, ct_Wire_put a = some v → StcOK R_Wire 0 0 a v := by
  intro a v h
  unfold ct_Wire_put at h
  cases h
/-- Wire_put -/
def sp_Wire_put : CSp := sRI (fun q x σ K _ => q.1 = 3 ∧ IV σ ∧ by8 x ∧ ∀ σ', IV σ' → Un [3, 4] σ σ' → K none σ')
set_option maxHeartbeats 4000000 in
set_option maxRecDepth 100000 in
theorem c_Wire_put : Ctr y_Wire_put b_Wire_put 2 none 0 0 0 0 sp_Wire_put := by
  refine ctr_of (FT := ft_Wire) (GT := gt_Wire_put) (CT := ct_Wire_put) (sw := sw_Wire_put) (rt := 2) (pr := pr_Wire_put) (by decide) [] (fun _ _ _ _ _ _ _ _ _ _ _ => False) 40 ⟨fun h => absurd h (by decide), fun h => absurd h (by decide), fun _ => rfl, fun h => absurd h (by decide)⟩ dk_Wire_put fo_Wire go_Wire_put co_Wire_put (fun a k h hk => by unfold gt_Wire_put at h; cases h) (fun q hq h => absurd h (nt_Wire_put q hq)) (fun av σ K kx h => by rw [sRI_len h]; decide) ?_ ?_
  · intro av σ K kx hok hSp
    obtain ⟨q0, x0, rfl, hp⟩ := sRI_inv hSp
    obtain ⟨k0, e0, i0⟩ := q0
    obtain ⟨h0, hI, h2, h3⟩ := hp
    dsimp only at h0; subst h0
    have i1 : 0 ≤ σ 3 e0 i0 1 ∧ σ 3 e0 i0 1 ≤ 239 := hI 3 e0 i0 1
    have i2 : 0 ≤ σ 3 e0 i0 2 ∧ σ 3 e0 i0 2 ≤ 240 := hI 3 e0 i0 2
    all_goals (repeat' (first | (with_reducible assumption) | (with_reducible refine IV_upd ?_ ?_) | (with_reducible refine IV_cpy ?_ (fun _ _ _ _ => trivial)) | (refine And.intro ?_ ?_) | (intro _)))
    all_goals first | (first | rfl | decide | (simp only [nrm, strm, by8] at * <;> omega) | (simp [upd4, cpy4, nrm, strm, by8] at * <;> omega)) | (exact h3) | (refine h3 _ ?_ ?_ <;> (repeat' (first | assumption | exact trivial | exact Un_rf | exact hI 4 _ _ _ | exact hI 9 _ _ _ | exact hI 22 _ _ _ | (refine ixr_by8 ?_ ?_) | (refine IV_upd ?_ ?_) | (refine Un_upd rfl ?_) | (refine IV_cpy ?_ (fun _ _ _ _ => trivial)) | (refine Un_cpy rfl ?_) | (apply Un_tr; rotate_left; assumption; rfl) | (refine And.intro ?_ ?_))) <;> (first | rfl | decide | (simp only [nrm, strm, by8] at * <;> omega) | (simp [upd4, cpy4, nrm, strm, by8] at * <;> omega))) | (apply h3 <;> (repeat' (first | assumption | exact trivial | exact Un_rf | exact hI 4 _ _ _ | exact hI 9 _ _ _ | exact hI 22 _ _ _ | (refine ixr_by8 ?_ ?_) | (refine IV_upd ?_ ?_) | (refine Un_upd rfl ?_) | (refine IV_cpy ?_ (fun _ _ _ _ => trivial)) | (refine Un_cpy rfl ?_) | (apply Un_tr; rotate_left; assumption; rfl) | (refine And.intro ?_ ?_))) <;> (first | rfl | decide | (simp only [nrm, strm, by8] at * <;> omega) | (simp [upd4, cpy4, nrm, strm, by8] at * <;> omega))) | ((repeat' (first | assumption | exact trivial | exact Un_rf | exact hI 4 _ _ _ | exact hI 9 _ _ _ | exact hI 22 _ _ _ | (refine ixr_by8 ?_ ?_) | (refine IV_upd ?_ ?_) | (refine Un_upd rfl ?_) | (refine IV_cpy ?_ (fun _ _ _ _ => trivial)) | (refine Un_cpy rfl ?_) | (apply Un_tr; rotate_left; assumption; rfl) | (refine And.intro ?_ ?_))) <;> (first | rfl | decide | (simp only [nrm, strm, by8] at * <;> omega) | (simp [upd4, cpy4, nrm, strm, by8] at * <;> omega)))
  · intro av σ K kx n pc L st σ' nc ns _ _ h
    exact (h : False).elim
def gt_Wire_putHead (a : Nat) : Option Nat := match a with
  | _ => none
theorem go_Wire_putHead : ∀ a v, gt_Wire_putHead a = some v → StaOK R_Wire a v := by
  intro a v h
  unfold gt_Wire_putHead at h
  cases h
def pr_Wire_putHead : List Ent := [(0, 5, 0, 0, 0), (1, 3, 1, 0, 0), (2, 46, 22, 0, 0), (5, 5, 0, 0, 0), (6, 3, 2, 0, 0), (7, 46, 22, 0, 0), (10, 5, 0, 0, 0), (11, 3, 3, 0, 0), (12, 46, 22, 0, 0), (15, 5, 0, 0, 0), (16, 4, 4, 0, 0), (18, 46, 22, 0, 0), (21, 49, 0, 0, 0)]
def sw_Wire_putHead : List Swt := []
theorem dk_Wire_putHead : ∀ q ∈ pr_Wire_putHead, decode b_Wire_putHead q.1 = .ok (dec sw_Wire_putHead q) ∧ okE q = true := by decide +kernel
theorem nt_Wire_putHead : ∀ q ∈ pr_Wire_putHead, ¬ q.2.1 = 55 := by decide +kernel
def ct_Wire_putHead (a : Nat) : Option (Nat × Nat × CSp × Nat × Nat) := match a with
  | 22 => some (2, 8, sp_Wire_put, 0, 0)
  | _ => none
theorem co_Wire_putHead : ∀ a v, ct_Wire_putHead a = some v → StcOK R_Wire 1 21 a v := by
  intro a v h
  unfold ct_Wire_putHead at h
  split at h
  · cases h; exact ⟨y_Wire_put, b_Wire_put, 2, none, 0, 0, 1, c_Wire_put, by decide, by decide +kernel, by decide +kernel, by decide +kernel, Or.inl ⟨rfl, by decide, by decide +kernel, by decide +kernel, _, _, rfl, by decide +kernel⟩⟩
  · cases h
/-- Wire_putHead -/
def sp_Wire_putHead : CSp := sRIIII (fun q x0 x1 x2 x3 σ K _ => q.1 = 3 ∧ IV σ ∧ by8 x0 ∧ by8 x1 ∧ by8 x2 ∧ by8 x3 ∧ ∀ σ', IV σ' → Un [3, 4] σ σ' → K none σ')
set_option maxHeartbeats 4000000 in
set_option maxRecDepth 100000 in
theorem c_Wire_putHead : Ctr y_Wire_putHead b_Wire_putHead 5 none 1 21 0 0 sp_Wire_putHead := by
  refine ctr_of (FT := ft_Wire) (GT := gt_Wire_putHead) (CT := ct_Wire_putHead) (sw := sw_Wire_putHead) (rt := 2) (pr := pr_Wire_putHead) (by decide) [] (fun _ _ _ _ _ _ _ _ _ _ _ => False) 30 ⟨fun h => absurd h (by decide), fun h => absurd h (by decide), fun _ => rfl, fun h => absurd h (by decide)⟩ dk_Wire_putHead fo_Wire go_Wire_putHead co_Wire_putHead (fun a k h hk => by unfold gt_Wire_putHead at h; cases h) (fun q hq h => absurd h (nt_Wire_putHead q hq)) (fun av σ K kx h => by rw [sRIIII_len h]; decide) ?_ ?_
  · intro av σ K kx hok hSp
    obtain ⟨q0, x0, x1, x2, x3, rfl, hp⟩ := sRIIII_inv hSp
    obtain ⟨k0, e0, i0⟩ := q0
    obtain ⟨h0, hI, h2, h3, h4, h5, h6⟩ := hp
    dsimp only at h0; subst h0
    all_goals (repeat' (first | (with_reducible assumption) | (with_reducible refine IV_upd ?_ ?_) | (with_reducible refine IV_cpy ?_ (fun _ _ _ _ => trivial)) | (refine And.intro ?_ ?_) | (intro _)))
    all_goals first | (first | rfl | decide | (simp only [nrm, strm, by8] at * <;> omega) | (simp [upd4, cpy4, nrm, strm, by8] at * <;> omega)) | (exact h6) | (refine h6 _ ?_ ?_ <;> (repeat' (first | assumption | exact trivial | exact Un_rf | exact hI 4 _ _ _ | exact hI 9 _ _ _ | exact hI 22 _ _ _ | (refine ixr_by8 ?_ ?_) | (refine IV_upd ?_ ?_) | (refine Un_upd rfl ?_) | (refine IV_cpy ?_ (fun _ _ _ _ => trivial)) | (refine Un_cpy rfl ?_) | (apply Un_tr; rotate_left; assumption; rfl) | (refine And.intro ?_ ?_))) <;> (first | rfl | decide | (simp only [nrm, strm, by8] at * <;> omega) | (simp [upd4, cpy4, nrm, strm, by8] at * <;> omega))) | (apply h6 <;> (repeat' (first | assumption | exact trivial | exact Un_rf | exact hI 4 _ _ _ | exact hI 9 _ _ _ | exact hI 22 _ _ _ | (refine ixr_by8 ?_ ?_) | (refine IV_upd ?_ ?_) | (refine Un_upd rfl ?_) | (refine IV_cpy ?_ (fun _ _ _ _ => trivial)) | (refine Un_cpy rfl ?_) | (apply Un_tr; rotate_left; assumption; rfl) | (refine And.intro ?_ ?_))) <;> (first | rfl | decide | (simp only [nrm, strm, by8] at * <;> omega) | (simp [upd4, cpy4, nrm, strm, by8] at * <;> omega))) | ((repeat' (first | assumption | exact trivial | exact Un_rf | exact hI 4 _ _ _ | exact hI 9 _ _ _ | exact hI 22 _ _ _ | (refine ixr_by8 ?_ ?_) | (refine IV_upd ?_ ?_) | (refine Un_upd rfl ?_) | (refine IV_cpy ?_ (fun _ _ _ _ => trivial)) | (refine Un_cpy rfl ?_) | (apply Un_tr; rotate_left; assumption; rfl) | (refine And.intro ?_ ?_))) <;> (first | rfl | decide | (simp only [nrm, strm, by8] at * <;> omega) | (simp [upd4, cpy4, nrm, strm, by8] at * <;> omega)))
  · intro av σ K kx n pc L st σ' nc ns _ _ h
    exact (h : False).elim
def gt_Wire_take (a : Nat) : Option Nat := match a with
  | _ => none
theorem go_Wire_take : ∀ a v, gt_Wire_take a = some v → StaOK R_Wire a v := by
  intro a v h
  unfold gt_Wire_take at h
  cases h
def pr_Wire_take : List Ent := [(0, 5, 0, 0, 0), (1, 39, 19, 0, 0), (4, 27, 0, 0, 9), (7, 0, 0, 0, 0), (8, 48, 0, 0, 0), (9, 5, 0, 0, 0), (10, 39, 9, 0, 0), (13, 5, 0, 0, 0), (14, 39, 15, 0, 0), (17, 41, 0, 0, 0), (18, 7, 1, 0, 0), (19, 5, 0, 0, 0), (20, 5, 0, 0, 0), (21, 39, 15, 0, 0), (24, 0, 0, 1, 0), (25, 12, 0, 0, 0), (26, 2, 0, 240, 0), (29, 17, 0, 0, 0), (30, 40, 15, 0, 0), (33, 5, 0, 0, 0), (34, 23, 0, 0, 0), (35, 39, 19, 0, 0), (38, 0, 0, 1, 0), (39, 13, 0, 0, 0), (40, 40, 19, 0, 0), (43, 3, 1, 0, 0), (44, 48, 0, 0, 0)]
def sw_Wire_take : List Swt := []
theorem dk_Wire_take : ∀ q ∈ pr_Wire_take, decode b_Wire_take q.1 = .ok (dec sw_Wire_take q) ∧ okE q = true := by decide +kernel
theorem nt_Wire_take : ∀ q ∈ pr_Wire_take, ¬ q.2.1 = 55 := by decide +kernel
def ct_Wire_take (a : Nat) : Option (Nat × Nat × CSp × Nat × Nat) := match a with
  | _ => none
theorem co_Wire_take : ∀ a v, ct_Wire_take a = some v → StcOK R_Wire 0 0 a v := by
  intro a v h
  unfold ct_Wire_take at h
  cases h
/-- Wire_take -/
def sp_Wire_take : CSp := sR (fun q σ K _ => q.1 = 3 ∧ IV σ ∧ ∀ r σ', by8 r → IV σ' → Un [3, 4] σ σ' → K (some (.inl r)) σ')
set_option maxHeartbeats 4000000 in
set_option maxRecDepth 100000 in
theorem c_Wire_take : Ctr y_Wire_take b_Wire_take 2 (some .int) 0 0 0 0 sp_Wire_take := by
  refine ctr_of (FT := ft_Wire) (GT := gt_Wire_take) (CT := ct_Wire_take) (sw := sw_Wire_take) (rt := 0) (pr := pr_Wire_take) (by decide) [] (fun _ _ _ _ _ _ _ _ _ _ _ => False) 40 ⟨fun _ => rfl, fun h => absurd h (by decide), fun h => absurd h (by decide), fun h => absurd h (by decide)⟩ dk_Wire_take fo_Wire go_Wire_take co_Wire_take (fun a k h hk => by unfold gt_Wire_take at h; cases h) (fun q hq h => absurd h (nt_Wire_take q hq)) (fun av σ K kx h => by rw [sR_len h]; decide) ?_ ?_
  · intro av σ K kx hok hSp
    obtain ⟨q0, rfl, hp⟩ := sR_inv hSp
    obtain ⟨k0, e0, i0⟩ := q0
    obtain ⟨h0, hI, h2⟩ := hp
    dsimp only at h0; subst h0
    have i1 : 0 ≤ σ 3 e0 i0 1 ∧ σ 3 e0 i0 1 ≤ 239 := hI 3 e0 i0 1
    have i2 : 0 ≤ σ 3 e0 i0 2 ∧ σ 3 e0 i0 2 ≤ 240 := hI 3 e0 i0 2
    all_goals (repeat' (first | (with_reducible assumption) | (with_reducible refine IV_upd ?_ ?_) | (with_reducible refine IV_cpy ?_ (fun _ _ _ _ => trivial)) | (refine And.intro ?_ ?_) | (intro _)))
    all_goals first | (first | rfl | decide | (simp only [nrm, strm, by8] at * <;> omega) | (simp [upd4, cpy4, nrm, strm, by8] at * <;> omega)) | (exact h2) | (refine h2 _ ?_ ?_ <;> (repeat' (first | assumption | exact trivial | exact Un_rf | exact hI 4 _ _ _ | exact hI 9 _ _ _ | exact hI 22 _ _ _ | (refine ixr_by8 ?_ ?_) | (refine IV_upd ?_ ?_) | (refine Un_upd rfl ?_) | (refine IV_cpy ?_ (fun _ _ _ _ => trivial)) | (refine Un_cpy rfl ?_) | (apply Un_tr; rotate_left; assumption; rfl) | (refine And.intro ?_ ?_))) <;> (first | rfl | decide | (simp only [nrm, strm, by8] at * <;> omega) | (simp [upd4, cpy4, nrm, strm, by8] at * <;> omega))) | (apply h2 <;> (repeat' (first | assumption | exact trivial | exact Un_rf | exact hI 4 _ _ _ | exact hI 9 _ _ _ | exact hI 22 _ _ _ | (refine ixr_by8 ?_ ?_) | (refine IV_upd ?_ ?_) | (refine Un_upd rfl ?_) | (refine IV_cpy ?_ (fun _ _ _ _ => trivial)) | (refine Un_cpy rfl ?_) | (apply Un_tr; rotate_left; assumption; rfl) | (refine And.intro ?_ ?_))) <;> (first | rfl | decide | (simp only [nrm, strm, by8] at * <;> omega) | (simp [upd4, cpy4, nrm, strm, by8] at * <;> omega))) | ((repeat' (first | assumption | exact trivial | exact Un_rf | exact hI 4 _ _ _ | exact hI 9 _ _ _ | exact hI 22 _ _ _ | (refine ixr_by8 ?_ ?_) | (refine IV_upd ?_ ?_) | (refine Un_upd rfl ?_) | (refine IV_cpy ?_ (fun _ _ _ _ => trivial)) | (refine Un_cpy rfl ?_) | (apply Un_tr; rotate_left; assumption; rfl) | (refine And.intro ?_ ?_))) <;> (first | rfl | decide | (simp only [nrm, strm, by8] at * <;> omega) | (simp [upd4, cpy4, nrm, strm, by8] at * <;> omega)))
  · intro av σ K kx n pc L st σ' nc ns _ _ h
    exact (h : False).elim
def gt_Wire_flip (a : Nat) : Option Nat := match a with
  | _ => none
theorem go_Wire_flip : ∀ a v, gt_Wire_flip a = some v → StaOK R_Wire a v := by
  intro a v h
  unfold gt_Wire_flip at h
  cases h
def pr_Wire_flip : List Ent := [(0, 3, 1, 0, 0), (1, 28, 0, 0, 12), (4, 3, 1, 0, 0), (5, 5, 0, 0, 0), (6, 39, 19, 0, 0), (9, 34, 0, 0, 14), (12, 0, 0, 0, 0), (13, 48, 0, 0, 0), (14, 5, 0, 0, 0), (15, 39, 15, 0, 0), (18, 3, 1, 0, 0), (19, 12, 0, 0, 0), (20, 2, 0, 240, 0), (23, 17, 0, 0, 0), (24, 7, 3, 0, 0), (25, 5, 0, 0, 0), (26, 39, 9, 0, 0), (29, 3, 3, 0, 0), (30, 25, 0, 0, 0), (31, 41, 0, 0, 0), (32, 3, 2, 0, 0), (33, 20, 0, 0, 0), (34, 42, 0, 0, 0), (35, 5, 0, 0, 0), (36, 39, 9, 0, 0), (39, 3, 3, 0, 0), (40, 41, 0, 0, 0), (41, 48, 0, 0, 0)]
def sw_Wire_flip : List Swt := []
theorem dk_Wire_flip : ∀ q ∈ pr_Wire_flip, decode b_Wire_flip q.1 = .ok (dec sw_Wire_flip q) ∧ okE q = true := by decide +kernel
theorem nt_Wire_flip : ∀ q ∈ pr_Wire_flip, ¬ q.2.1 = 55 := by decide +kernel
def ct_Wire_flip (a : Nat) : Option (Nat × Nat × CSp × Nat × Nat) := match a with
  | _ => none
theorem co_Wire_flip : ∀ a v, ct_Wire_flip a = some v → StcOK R_Wire 0 0 a v := by
  intro a v h
  unfold ct_Wire_flip at h
  cases h
/-- Wire_flip -/
def sp_Wire_flip : CSp := sRII (fun q x0 x1 σ K _ => q.1 = 3 ∧ IV σ ∧ by8 x1 ∧ ∀ r σ', IV σ' → Un [3, 4] σ σ' → K (some (.inl r)) σ')
set_option maxHeartbeats 4000000 in
set_option maxRecDepth 100000 in
theorem c_Wire_flip : Ctr y_Wire_flip b_Wire_flip 4 (some .int) 0 0 0 0 sp_Wire_flip := by
  refine ctr_of (FT := ft_Wire) (GT := gt_Wire_flip) (CT := ct_Wire_flip) (sw := sw_Wire_flip) (rt := 0) (pr := pr_Wire_flip) (by decide) [] (fun _ _ _ _ _ _ _ _ _ _ _ => False) 40 ⟨fun _ => rfl, fun h => absurd h (by decide), fun h => absurd h (by decide), fun h => absurd h (by decide)⟩ dk_Wire_flip fo_Wire go_Wire_flip co_Wire_flip (fun a k h hk => by unfold gt_Wire_flip at h; cases h) (fun q hq h => absurd h (nt_Wire_flip q hq)) (fun av σ K kx h => by rw [sRII_len h]; decide) ?_ ?_
  · intro av σ K kx hok hSp
    obtain ⟨q0, x0, x1, rfl, hp⟩ := sRII_inv hSp
    obtain ⟨k0, e0, i0⟩ := q0
    obtain ⟨h0, hI, h2, h3⟩ := hp
    dsimp only at h0; subst h0
    have i1 : 0 ≤ σ 3 e0 i0 1 ∧ σ 3 e0 i0 1 ≤ 239 := hI 3 e0 i0 1
    have i2 : 0 ≤ σ 3 e0 i0 2 ∧ σ 3 e0 i0 2 ≤ 240 := hI 3 e0 i0 2
    all_goals (repeat' (first | (with_reducible assumption) | (with_reducible refine IV_upd ?_ ?_) | (with_reducible refine IV_cpy ?_ (fun _ _ _ _ => trivial)) | (refine And.intro ?_ ?_) | (intro _)))
    all_goals first | (first | rfl | decide | (simp only [nrm, strm, by8] at * <;> omega) | (simp [upd4, cpy4, nrm, strm, by8] at * <;> omega)) | (exact h3) | (refine h3 _ ?_ ?_ <;> (repeat' (first | assumption | exact trivial | exact Un_rf | exact hI 4 _ _ _ | exact hI 9 _ _ _ | exact hI 22 _ _ _ | (refine ixr_by8 ?_ ?_) | (refine IV_upd ?_ ?_) | (refine Un_upd rfl ?_) | (refine IV_cpy ?_ (fun _ _ _ _ => trivial)) | (refine Un_cpy rfl ?_) | (apply Un_tr; rotate_left; assumption; rfl) | (refine And.intro ?_ ?_))) <;> (first | rfl | decide | (simp only [nrm, strm, by8] at * <;> omega) | (simp [upd4, cpy4, nrm, strm, by8] at * <;> omega))) | (apply h3 <;> (repeat' (first | assumption | exact trivial | exact Un_rf | exact hI 4 _ _ _ | exact hI 9 _ _ _ | exact hI 22 _ _ _ | (refine ixr_by8 ?_ ?_) | (refine IV_upd ?_ ?_) | (refine Un_upd rfl ?_) | (refine IV_cpy ?_ (fun _ _ _ _ => trivial)) | (refine Un_cpy rfl ?_) | (apply Un_tr; rotate_left; assumption; rfl) | (refine And.intro ?_ ?_))) <;> (first | rfl | decide | (simp only [nrm, strm, by8] at * <;> omega) | (simp [upd4, cpy4, nrm, strm, by8] at * <;> omega))) | ((repeat' (first | assumption | exact trivial | exact Un_rf | exact hI 4 _ _ _ | exact hI 9 _ _ _ | exact hI 22 _ _ _ | (refine ixr_by8 ?_ ?_) | (refine IV_upd ?_ ?_) | (refine Un_upd rfl ?_) | (refine IV_cpy ?_ (fun _ _ _ _ => trivial)) | (refine Un_cpy rfl ?_) | (apply Un_tr; rotate_left; assumption; rfl) | (refine And.intro ?_ ?_))) <;> (first | rfl | decide | (simp only [nrm, strm, by8] at * <;> omega) | (simp [upd4, cpy4, nrm, strm, by8] at * <;> omega)))
  · intro av σ K kx n pc L st σ' nc ns _ _ h
    exact (h : False).elim
end
section
def ft_Frame (a : Nat) : Option (Nat × Nat × Nat) := match a with
  | 9 => some (5, 0, 2)
  | 15 => some (5, 1, 0)
  | _ => none
theorem fo_Frame : ∀ a v, ft_Frame a = some v → FldOK R_Frame a v := by
  intro a v h
  unfold ft_Frame at h
  split at h
  · cases h; exact fl_Frame _ _ _ _ (by decide) (by decide +kernel) (by decide)
  · cases h; exact fl_Frame _ _ _ _ (by decide) (by decide +kernel) (by decide)
  · cases h
def gt_Frame_add (a : Nat) : Option Nat := match a with
  | _ => none
theorem go_Frame_add : ∀ a v, gt_Frame_add a = some v → StaOK R_Frame a v := by
  intro a v h
  unfold gt_Frame_add at h
  cases h
def pr_Frame_add : List Ent := [(0, 5, 0, 0, 0), (1, 39, 15, 0, 0), (4, 5, 0, 0, 0), (5, 39, 9, 0, 0), (8, 44, 0, 0, 0), (9, 35, 0, 0, 32), (12, 5, 0, 0, 0), (13, 39, 9, 0, 0), (16, 5, 0, 0, 0), (17, 39, 15, 0, 0), (20, 3, 1, 0, 0), (21, 42, 0, 0, 0), (22, 5, 0, 0, 0), (23, 23, 0, 0, 0), (24, 39, 15, 0, 0), (27, 0, 0, 1, 0), (28, 12, 0, 0, 0), (29, 40, 15, 0, 0), (32, 49, 0, 0, 0)]
def sw_Frame_add : List Swt := []
theorem dk_Frame_add : ∀ q ∈ pr_Frame_add, decode b_Frame_add q.1 = .ok (dec sw_Frame_add q) ∧ okE q = true := by decide +kernel
theorem nt_Frame_add : ∀ q ∈ pr_Frame_add, ¬ q.2.1 = 55 := by decide +kernel
def ct_Frame_add (a : Nat) : Option (Nat × Nat × CSp × Nat × Nat) := match a with
  | _ => none
theorem co_Frame_add : ∀ a v, ct_Frame_add a = some v → StcOK R_Frame 0 0 a v := by
  intro a v h
  unfold ct_Frame_add at h
  cases h
/-- Frame_add -/
def sp_Frame_add : CSp := sRI (fun q x σ K _ => q.1 = 8 ∧ IV σ ∧ by8 x ∧ ∀ σ', IV σ' → Un [8, 9] σ σ' → K none σ')
set_option maxHeartbeats 4000000 in
set_option maxRecDepth 100000 in
theorem c_Frame_add : Ctr y_Frame_add b_Frame_add 2 none 0 0 0 0 sp_Frame_add := by
  refine ctr_of (FT := ft_Frame) (GT := gt_Frame_add) (CT := ct_Frame_add) (sw := sw_Frame_add) (rt := 2) (pr := pr_Frame_add) (by decide) [] (fun _ _ _ _ _ _ _ _ _ _ _ => False) 30 ⟨fun h => absurd h (by decide), fun h => absurd h (by decide), fun _ => rfl, fun h => absurd h (by decide)⟩ dk_Frame_add fo_Frame go_Frame_add co_Frame_add (fun a k h hk => by unfold gt_Frame_add at h; cases h) (fun q hq h => absurd h (nt_Frame_add q hq)) (fun av σ K kx h => by rw [sRI_len h]; decide) ?_ ?_
  · intro av σ K kx hok hSp
    obtain ⟨q0, x0, rfl, hp⟩ := sRI_inv hSp
    obtain ⟨k0, e0, i0⟩ := q0
    obtain ⟨h0, hI, h2, h3⟩ := hp
    dsimp only at h0; subst h0
    have i1 : 0 ≤ σ 8 e0 i0 1 ∧ σ 8 e0 i0 1 ≤ 44 := hI 8 e0 i0 1
    all_goals (repeat' (first | (with_reducible assumption) | (with_reducible refine IV_upd ?_ ?_) | (with_reducible refine IV_cpy ?_ (fun _ _ _ _ => trivial)) | (refine And.intro ?_ ?_) | (intro _)))
    all_goals first | (first | rfl | decide | (simp only [nrm, strm, by8] at * <;> omega) | (simp [upd4, cpy4, nrm, strm, by8] at * <;> omega)) | (exact h3) | (refine h3 _ ?_ ?_ <;> (repeat' (first | assumption | exact trivial | exact Un_rf | exact hI 4 _ _ _ | exact hI 9 _ _ _ | exact hI 22 _ _ _ | (refine ixr_by8 ?_ ?_) | (refine IV_upd ?_ ?_) | (refine Un_upd rfl ?_) | (refine IV_cpy ?_ (fun _ _ _ _ => trivial)) | (refine Un_cpy rfl ?_) | (apply Un_tr; rotate_left; assumption; rfl) | (refine And.intro ?_ ?_))) <;> (first | rfl | decide | (simp only [nrm, strm, by8] at * <;> omega) | (simp [upd4, cpy4, nrm, strm, by8] at * <;> omega))) | (apply h3 <;> (repeat' (first | assumption | exact trivial | exact Un_rf | exact hI 4 _ _ _ | exact hI 9 _ _ _ | exact hI 22 _ _ _ | (refine ixr_by8 ?_ ?_) | (refine IV_upd ?_ ?_) | (refine Un_upd rfl ?_) | (refine IV_cpy ?_ (fun _ _ _ _ => trivial)) | (refine Un_cpy rfl ?_) | (apply Un_tr; rotate_left; assumption; rfl) | (refine And.intro ?_ ?_))) <;> (first | rfl | decide | (simp only [nrm, strm, by8] at * <;> omega) | (simp [upd4, cpy4, nrm, strm, by8] at * <;> omega))) | ((repeat' (first | assumption | exact trivial | exact Un_rf | exact hI 4 _ _ _ | exact hI 9 _ _ _ | exact hI 22 _ _ _ | (refine ixr_by8 ?_ ?_) | (refine IV_upd ?_ ?_) | (refine Un_upd rfl ?_) | (refine IV_cpy ?_ (fun _ _ _ _ => trivial)) | (refine Un_cpy rfl ?_) | (apply Un_tr; rotate_left; assumption; rfl) | (refine And.intro ?_ ?_))) <;> (first | rfl | decide | (simp only [nrm, strm, by8] at * <;> omega) | (simp [upd4, cpy4, nrm, strm, by8] at * <;> omega)))
  · intro av σ K kx n pc L st σ' nc ns _ _ h
    exact (h : False).elim
def gt_Frame_clear (a : Nat) : Option Nat := match a with
  | _ => none
theorem go_Frame_clear : ∀ a v, gt_Frame_clear a = some v → StaOK R_Frame a v := by
  intro a v h
  unfold gt_Frame_clear at h
  cases h
def pr_Frame_clear : List Ent := [(0, 5, 0, 0, 0), (1, 0, 0, 0, 0), (2, 40, 15, 0, 0), (5, 49, 0, 0, 0)]
def sw_Frame_clear : List Swt := []
theorem dk_Frame_clear : ∀ q ∈ pr_Frame_clear, decode b_Frame_clear q.1 = .ok (dec sw_Frame_clear q) ∧ okE q = true := by decide +kernel
theorem nt_Frame_clear : ∀ q ∈ pr_Frame_clear, ¬ q.2.1 = 55 := by decide +kernel
def ct_Frame_clear (a : Nat) : Option (Nat × Nat × CSp × Nat × Nat) := match a with
  | _ => none
theorem co_Frame_clear : ∀ a v, ct_Frame_clear a = some v → StcOK R_Frame 0 0 a v := by
  intro a v h
  unfold ct_Frame_clear at h
  cases h
/-- Frame_clear -/
def sp_Frame_clear : CSp := sR (fun q σ K _ => q.1 = 8 ∧ IV σ ∧ ∀ σ', IV σ' → Un [8, 9] σ σ' → K none σ')
set_option maxHeartbeats 4000000 in
set_option maxRecDepth 100000 in
theorem c_Frame_clear : Ctr y_Frame_clear b_Frame_clear 1 none 0 0 0 0 sp_Frame_clear := by
  refine ctr_of (FT := ft_Frame) (GT := gt_Frame_clear) (CT := ct_Frame_clear) (sw := sw_Frame_clear) (rt := 2) (pr := pr_Frame_clear) (by decide) [] (fun _ _ _ _ _ _ _ _ _ _ _ => False) 20 ⟨fun h => absurd h (by decide), fun h => absurd h (by decide), fun _ => rfl, fun h => absurd h (by decide)⟩ dk_Frame_clear fo_Frame go_Frame_clear co_Frame_clear (fun a k h hk => by unfold gt_Frame_clear at h; cases h) (fun q hq h => absurd h (nt_Frame_clear q hq)) (fun av σ K kx h => by rw [sR_len h]; decide) ?_ ?_
  · intro av σ K kx hok hSp
    obtain ⟨q0, rfl, hp⟩ := sR_inv hSp
    obtain ⟨k0, e0, i0⟩ := q0
    obtain ⟨h0, hI, h2⟩ := hp
    dsimp only at h0; subst h0
    all_goals (repeat' (first | (with_reducible assumption) | (with_reducible refine IV_upd ?_ ?_) | (with_reducible refine IV_cpy ?_ (fun _ _ _ _ => trivial)) | (refine And.intro ?_ ?_) | (intro _)))
    all_goals first | (first | rfl | decide | (simp only [nrm, strm, by8] at * <;> omega) | (simp [upd4, cpy4, nrm, strm, by8] at * <;> omega)) | (exact h2) | (refine h2 _ ?_ ?_ <;> (repeat' (first | assumption | exact trivial | exact Un_rf | exact hI 4 _ _ _ | exact hI 9 _ _ _ | exact hI 22 _ _ _ | (refine ixr_by8 ?_ ?_) | (refine IV_upd ?_ ?_) | (refine Un_upd rfl ?_) | (refine IV_cpy ?_ (fun _ _ _ _ => trivial)) | (refine Un_cpy rfl ?_) | (apply Un_tr; rotate_left; assumption; rfl) | (refine And.intro ?_ ?_))) <;> (first | rfl | decide | (simp only [nrm, strm, by8] at * <;> omega) | (simp [upd4, cpy4, nrm, strm, by8] at * <;> omega))) | (apply h2 <;> (repeat' (first | assumption | exact trivial | exact Un_rf | exact hI 4 _ _ _ | exact hI 9 _ _ _ | exact hI 22 _ _ _ | (refine ixr_by8 ?_ ?_) | (refine IV_upd ?_ ?_) | (refine Un_upd rfl ?_) | (refine IV_cpy ?_ (fun _ _ _ _ => trivial)) | (refine Un_cpy rfl ?_) | (apply Un_tr; rotate_left; assumption; rfl) | (refine And.intro ?_ ?_))) <;> (first | rfl | decide | (simp only [nrm, strm, by8] at * <;> omega) | (simp [upd4, cpy4, nrm, strm, by8] at * <;> omega))) | ((repeat' (first | assumption | exact trivial | exact Un_rf | exact hI 4 _ _ _ | exact hI 9 _ _ _ | exact hI 22 _ _ _ | (refine ixr_by8 ?_ ?_) | (refine IV_upd ?_ ?_) | (refine Un_upd rfl ?_) | (refine IV_cpy ?_ (fun _ _ _ _ => trivial)) | (refine Un_cpy rfl ?_) | (apply Un_tr; rotate_left; assumption; rfl) | (refine And.intro ?_ ?_))) <;> (first | rfl | decide | (simp only [nrm, strm, by8] at * <;> omega) | (simp [upd4, cpy4, nrm, strm, by8] at * <;> omega)))
  · intro av σ K kx n pc L st σ' nc ns _ _ h
    exact (h : False).elim
def gt_Frame_length (a : Nat) : Option Nat := match a with
  | _ => none
theorem go_Frame_length : ∀ a v, gt_Frame_length a = some v → StaOK R_Frame a v := by
  intro a v h
  unfold gt_Frame_length at h
  cases h
def pr_Frame_length : List Ent := [(0, 5, 0, 0, 0), (1, 39, 9, 0, 0), (4, 0, 0, 0, 0), (5, 41, 0, 0, 0), (6, 48, 0, 0, 0)]
def sw_Frame_length : List Swt := []
theorem dk_Frame_length : ∀ q ∈ pr_Frame_length, decode b_Frame_length q.1 = .ok (dec sw_Frame_length q) ∧ okE q = true := by decide +kernel
theorem nt_Frame_length : ∀ q ∈ pr_Frame_length, ¬ q.2.1 = 55 := by decide +kernel
def ct_Frame_length (a : Nat) : Option (Nat × Nat × CSp × Nat × Nat) := match a with
  | _ => none
theorem co_Frame_length : ∀ a v, ct_Frame_length a = some v → StcOK R_Frame 0 0 a v := by
  intro a v h
  unfold ct_Frame_length at h
  cases h
/-- Frame_length -/
def sp_Frame_length : CSp := sR (fun q σ K _ => q.1 = 8 ∧ K (some (.inl (σ 9 q.2.1 q.2.2 0))) σ)
set_option maxHeartbeats 4000000 in
set_option maxRecDepth 100000 in
theorem c_Frame_length : Ctr y_Frame_length b_Frame_length 1 (some .int) 0 0 0 0 sp_Frame_length := by
  refine ctr_of (FT := ft_Frame) (GT := gt_Frame_length) (CT := ct_Frame_length) (sw := sw_Frame_length) (rt := 0) (pr := pr_Frame_length) (by decide) [] (fun _ _ _ _ _ _ _ _ _ _ _ => False) 20 ⟨fun _ => rfl, fun h => absurd h (by decide), fun h => absurd h (by decide), fun h => absurd h (by decide)⟩ dk_Frame_length fo_Frame go_Frame_length co_Frame_length (fun a k h hk => by unfold gt_Frame_length at h; cases h) (fun q hq h => absurd h (nt_Frame_length q hq)) (fun av σ K kx h => by rw [sR_len h]; decide) ?_ ?_
  · intro av σ K kx hok hSp
    obtain ⟨q0, rfl, hp⟩ := sR_inv hSp
    obtain ⟨k0, e0, i0⟩ := q0
    obtain ⟨h0, h1⟩ := hp
    dsimp only at h0; subst h0
    all_goals (repeat' (first | (with_reducible assumption) | (with_reducible refine IV_upd ?_ ?_) | (with_reducible refine IV_cpy ?_ (fun _ _ _ _ => trivial)) | (refine And.intro ?_ ?_) | (intro _)))
    all_goals first | (first | rfl | decide | (simp only [nrm, strm, by8] at * <;> omega) | (simp [upd4, cpy4, nrm, strm, by8] at * <;> omega)) | (exact h1 (by first | assumption | (first | rfl | decide | (simp only [nrm, strm, by8] at * <;> omega) | (simp [upd4, cpy4, nrm, strm, by8] at * <;> omega)))) | (exact h1) | (refine h1 _ ?_ ?_ <;> (repeat' (first | assumption | exact trivial | exact Un_rf | exact hI 4 _ _ _ | exact hI 9 _ _ _ | exact hI 22 _ _ _ | (refine ixr_by8 ?_ ?_) | (refine IV_upd ?_ ?_) | (refine Un_upd rfl ?_) | (refine IV_cpy ?_ (fun _ _ _ _ => trivial)) | (refine Un_cpy rfl ?_) | (apply Un_tr; rotate_left; assumption; rfl) | (refine And.intro ?_ ?_))) <;> (first | rfl | decide | (simp only [nrm, strm, by8] at * <;> omega) | (simp [upd4, cpy4, nrm, strm, by8] at * <;> omega))) | (apply h1 <;> (repeat' (first | assumption | exact trivial | exact Un_rf | exact hI 4 _ _ _ | exact hI 9 _ _ _ | exact hI 22 _ _ _ | (refine ixr_by8 ?_ ?_) | (refine IV_upd ?_ ?_) | (refine Un_upd rfl ?_) | (refine IV_cpy ?_ (fun _ _ _ _ => trivial)) | (refine Un_cpy rfl ?_) | (apply Un_tr; rotate_left; assumption; rfl) | (refine And.intro ?_ ?_))) <;> (first | rfl | decide | (simp only [nrm, strm, by8] at * <;> omega) | (simp [upd4, cpy4, nrm, strm, by8] at * <;> omega))) | ((repeat' (first | assumption | exact trivial | exact Un_rf | exact hI 4 _ _ _ | exact hI 9 _ _ _ | exact hI 22 _ _ _ | (refine ixr_by8 ?_ ?_) | (refine IV_upd ?_ ?_) | (refine Un_upd rfl ?_) | (refine IV_cpy ?_ (fun _ _ _ _ => trivial)) | (refine Un_cpy rfl ?_) | (apply Un_tr; rotate_left; assumption; rfl) | (refine And.intro ?_ ?_))) <;> (first | rfl | decide | (simp only [nrm, strm, by8] at * <;> omega) | (simp [upd4, cpy4, nrm, strm, by8] at * <;> omega)))
  · intro av σ K kx n pc L st σ' nc ns _ _ h
    exact (h : False).elim
def gt_Frame_type (a : Nat) : Option Nat := match a with
  | _ => none
theorem go_Frame_type : ∀ a v, gt_Frame_type a = some v → StaOK R_Frame a v := by
  intro a v h
  unfold gt_Frame_type at h
  cases h
def pr_Frame_type : List Ent := [(0, 5, 0, 0, 0), (1, 39, 9, 0, 0), (4, 0, 0, 1, 0), (5, 41, 0, 0, 0), (6, 48, 0, 0, 0)]
def sw_Frame_type : List Swt := []
theorem dk_Frame_type : ∀ q ∈ pr_Frame_type, decode b_Frame_type q.1 = .ok (dec sw_Frame_type q) ∧ okE q = true := by decide +kernel
theorem nt_Frame_type : ∀ q ∈ pr_Frame_type, ¬ q.2.1 = 55 := by decide +kernel
def ct_Frame_type (a : Nat) : Option (Nat × Nat × CSp × Nat × Nat) := match a with
  | _ => none
theorem co_Frame_type : ∀ a v, ct_Frame_type a = some v → StcOK R_Frame 0 0 a v := by
  intro a v h
  unfold ct_Frame_type at h
  cases h
/-- Frame_type -/
def sp_Frame_type : CSp := sR (fun q σ K _ => q.1 = 8 ∧ K (some (.inl (σ 9 q.2.1 q.2.2 1))) σ)
set_option maxHeartbeats 4000000 in
set_option maxRecDepth 100000 in
theorem c_Frame_type : Ctr y_Frame_type b_Frame_type 1 (some .int) 0 0 0 0 sp_Frame_type := by
  refine ctr_of (FT := ft_Frame) (GT := gt_Frame_type) (CT := ct_Frame_type) (sw := sw_Frame_type) (rt := 0) (pr := pr_Frame_type) (by decide) [] (fun _ _ _ _ _ _ _ _ _ _ _ => False) 20 ⟨fun _ => rfl, fun h => absurd h (by decide), fun h => absurd h (by decide), fun h => absurd h (by decide)⟩ dk_Frame_type fo_Frame go_Frame_type co_Frame_type (fun a k h hk => by unfold gt_Frame_type at h; cases h) (fun q hq h => absurd h (nt_Frame_type q hq)) (fun av σ K kx h => by rw [sR_len h]; decide) ?_ ?_
  · intro av σ K kx hok hSp
    obtain ⟨q0, rfl, hp⟩ := sR_inv hSp
    obtain ⟨k0, e0, i0⟩ := q0
    obtain ⟨h0, h1⟩ := hp
    dsimp only at h0; subst h0
    all_goals (repeat' (first | (with_reducible assumption) | (with_reducible refine IV_upd ?_ ?_) | (with_reducible refine IV_cpy ?_ (fun _ _ _ _ => trivial)) | (refine And.intro ?_ ?_) | (intro _)))
    all_goals first | (first | rfl | decide | (simp only [nrm, strm, by8] at * <;> omega) | (simp [upd4, cpy4, nrm, strm, by8] at * <;> omega)) | (exact h1 (by first | assumption | (first | rfl | decide | (simp only [nrm, strm, by8] at * <;> omega) | (simp [upd4, cpy4, nrm, strm, by8] at * <;> omega)))) | (exact h1) | (refine h1 _ ?_ ?_ <;> (repeat' (first | assumption | exact trivial | exact Un_rf | exact hI 4 _ _ _ | exact hI 9 _ _ _ | exact hI 22 _ _ _ | (refine ixr_by8 ?_ ?_) | (refine IV_upd ?_ ?_) | (refine Un_upd rfl ?_) | (refine IV_cpy ?_ (fun _ _ _ _ => trivial)) | (refine Un_cpy rfl ?_) | (apply Un_tr; rotate_left; assumption; rfl) | (refine And.intro ?_ ?_))) <;> (first | rfl | decide | (simp only [nrm, strm, by8] at * <;> omega) | (simp [upd4, cpy4, nrm, strm, by8] at * <;> omega))) | (apply h1 <;> (repeat' (first | assumption | exact trivial | exact Un_rf | exact hI 4 _ _ _ | exact hI 9 _ _ _ | exact hI 22 _ _ _ | (refine ixr_by8 ?_ ?_) | (refine IV_upd ?_ ?_) | (refine Un_upd rfl ?_) | (refine IV_cpy ?_ (fun _ _ _ _ => trivial)) | (refine Un_cpy rfl ?_) | (apply Un_tr; rotate_left; assumption; rfl) | (refine And.intro ?_ ?_))) <;> (first | rfl | decide | (simp only [nrm, strm, by8] at * <;> omega) | (simp [upd4, cpy4, nrm, strm, by8] at * <;> omega))) | ((repeat' (first | assumption | exact trivial | exact Un_rf | exact hI 4 _ _ _ | exact hI 9 _ _ _ | exact hI 22 _ _ _ | (refine ixr_by8 ?_ ?_) | (refine IV_upd ?_ ?_) | (refine Un_upd rfl ?_) | (refine IV_cpy ?_ (fun _ _ _ _ => trivial)) | (refine Un_cpy rfl ?_) | (apply Un_tr; rotate_left; assumption; rfl) | (refine And.intro ?_ ?_))) <;> (first | rfl | decide | (simp only [nrm, strm, by8] at * <;> omega) | (simp [upd4, cpy4, nrm, strm, by8] at * <;> omega)))
  · intro av σ K kx n pc L st σ' nc ns _ _ h
    exact (h : False).elim
def gt_Frame_streamNumber (a : Nat) : Option Nat := match a with
  | _ => none
theorem go_Frame_streamNumber : ∀ a v, gt_Frame_streamNumber a = some v → StaOK R_Frame a v := by
  intro a v h
  unfold gt_Frame_streamNumber at h
  cases h
def pr_Frame_streamNumber : List Ent := [(0, 5, 0, 0, 0), (1, 39, 9, 0, 0), (4, 0, 0, 3, 0), (5, 41, 0, 0, 0), (6, 48, 0, 0, 0)]
def sw_Frame_streamNumber : List Swt := []
theorem dk_Frame_streamNumber : ∀ q ∈ pr_Frame_streamNumber, decode b_Frame_streamNumber q.1 = .ok (dec sw_Frame_streamNumber q) ∧ okE q = true := by decide +kernel
theorem nt_Frame_streamNumber : ∀ q ∈ pr_Frame_streamNumber, ¬ q.2.1 = 55 := by decide +kernel
def ct_Frame_streamNumber (a : Nat) : Option (Nat × Nat × CSp × Nat × Nat) := match a with
  | _ => none
theorem co_Frame_streamNumber : ∀ a v, ct_Frame_streamNumber a = some v → StcOK R_Frame 0 0 a v := by
  intro a v h
  unfold ct_Frame_streamNumber at h
  cases h
/-- Frame_streamNumber -/
def sp_Frame_streamNumber : CSp := sR (fun q σ K _ => q.1 = 8 ∧ K (some (.inl (σ 9 q.2.1 q.2.2 3))) σ)
set_option maxHeartbeats 4000000 in
set_option maxRecDepth 100000 in
theorem c_Frame_streamNumber : Ctr y_Frame_streamNumber b_Frame_streamNumber 1 (some .int) 0 0 0 0 sp_Frame_streamNumber := by
  refine ctr_of (FT := ft_Frame) (GT := gt_Frame_streamNumber) (CT := ct_Frame_streamNumber) (sw := sw_Frame_streamNumber) (rt := 0) (pr := pr_Frame_streamNumber) (by decide) [] (fun _ _ _ _ _ _ _ _ _ _ _ => False) 20 ⟨fun _ => rfl, fun h => absurd h (by decide), fun h => absurd h (by decide), fun h => absurd h (by decide)⟩ dk_Frame_streamNumber fo_Frame go_Frame_streamNumber co_Frame_streamNumber (fun a k h hk => by unfold gt_Frame_streamNumber at h; cases h) (fun q hq h => absurd h (nt_Frame_streamNumber q hq)) (fun av σ K kx h => by rw [sR_len h]; decide) ?_ ?_
  · intro av σ K kx hok hSp
    obtain ⟨q0, rfl, hp⟩ := sR_inv hSp
    obtain ⟨k0, e0, i0⟩ := q0
    obtain ⟨h0, h1⟩ := hp
    dsimp only at h0; subst h0
    all_goals (repeat' (first | (with_reducible assumption) | (with_reducible refine IV_upd ?_ ?_) | (with_reducible refine IV_cpy ?_ (fun _ _ _ _ => trivial)) | (refine And.intro ?_ ?_) | (intro _)))
    all_goals first | (first | rfl | decide | (simp only [nrm, strm, by8] at * <;> omega) | (simp [upd4, cpy4, nrm, strm, by8] at * <;> omega)) | (exact h1 (by first | assumption | (first | rfl | decide | (simp only [nrm, strm, by8] at * <;> omega) | (simp [upd4, cpy4, nrm, strm, by8] at * <;> omega)))) | (exact h1) | (refine h1 _ ?_ ?_ <;> (repeat' (first | assumption | exact trivial | exact Un_rf | exact hI 4 _ _ _ | exact hI 9 _ _ _ | exact hI 22 _ _ _ | (refine ixr_by8 ?_ ?_) | (refine IV_upd ?_ ?_) | (refine Un_upd rfl ?_) | (refine IV_cpy ?_ (fun _ _ _ _ => trivial)) | (refine Un_cpy rfl ?_) | (apply Un_tr; rotate_left; assumption; rfl) | (refine And.intro ?_ ?_))) <;> (first | rfl | decide | (simp only [nrm, strm, by8] at * <;> omega) | (simp [upd4, cpy4, nrm, strm, by8] at * <;> omega))) | (apply h1 <;> (repeat' (first | assumption | exact trivial | exact Un_rf | exact hI 4 _ _ _ | exact hI 9 _ _ _ | exact hI 22 _ _ _ | (refine ixr_by8 ?_ ?_) | (refine IV_upd ?_ ?_) | (refine Un_upd rfl ?_) | (refine IV_cpy ?_ (fun _ _ _ _ => trivial)) | (refine Un_cpy rfl ?_) | (apply Un_tr; rotate_left; assumption; rfl) | (refine And.intro ?_ ?_))) <;> (first | rfl | decide | (simp only [nrm, strm, by8] at * <;> omega) | (simp [upd4, cpy4, nrm, strm, by8] at * <;> omega))) | ((repeat' (first | assumption | exact trivial | exact Un_rf | exact hI 4 _ _ _ | exact hI 9 _ _ _ | exact hI 22 _ _ _ | (refine ixr_by8 ?_ ?_) | (refine IV_upd ?_ ?_) | (refine Un_upd rfl ?_) | (refine IV_cpy ?_ (fun _ _ _ _ => trivial)) | (refine Un_cpy rfl ?_) | (apply Un_tr; rotate_left; assumption; rfl) | (refine And.intro ?_ ?_))) <;> (first | rfl | decide | (simp only [nrm, strm, by8] at * <;> omega) | (simp [upd4, cpy4, nrm, strm, by8] at * <;> omega)))
  · intro av σ K kx n pc L st σ' nc ns _ _ h
    exact (h : False).elim
def gt_Frame_isFlagged (a : Nat) : Option Nat := match a with
  | _ => none
theorem go_Frame_isFlagged : ∀ a v, gt_Frame_isFlagged a = some v → StaOK R_Frame a v := by
  intro a v h
  unfold gt_Frame_isFlagged at h
  cases h
def pr_Frame_isFlagged : List Ent := [(0, 5, 0, 0, 0), (1, 39, 9, 0, 0), (4, 0, 0, 2, 0), (5, 41, 0, 0, 0), (6, 0, 0, 1, 0), (7, 18, 0, 0, 0), (8, 26, 0, 0, 15), (11, 0, 0, 1, 0), (12, 38, 0, 0, 16), (15, 0, 0, 0, 0), (16, 48, 0, 0, 0)]
def sw_Frame_isFlagged : List Swt := []
theorem dk_Frame_isFlagged : ∀ q ∈ pr_Frame_isFlagged, decode b_Frame_isFlagged q.1 = .ok (dec sw_Frame_isFlagged q) ∧ okE q = true := by decide +kernel
theorem nt_Frame_isFlagged : ∀ q ∈ pr_Frame_isFlagged, ¬ q.2.1 = 55 := by decide +kernel
def ct_Frame_isFlagged (a : Nat) : Option (Nat × Nat × CSp × Nat × Nat) := match a with
  | _ => none
theorem co_Frame_isFlagged : ∀ a v, ct_Frame_isFlagged a = some v → StcOK R_Frame 0 0 a v := by
  intro a v h
  unfold ct_Frame_isFlagged at h
  cases h
/-- Frame_isFlagged -/
def sp_Frame_isFlagged : CSp := sR (fun q σ K _ => q.1 = 8 ∧ K (some (.inl 0)) σ ∧ K (some (.inl 1)) σ)
set_option maxHeartbeats 4000000 in
set_option maxRecDepth 100000 in
theorem c_Frame_isFlagged : Ctr y_Frame_isFlagged b_Frame_isFlagged 1 (some .boolean) 0 0 0 0 sp_Frame_isFlagged := by
  refine ctr_of (FT := ft_Frame) (GT := gt_Frame_isFlagged) (CT := ct_Frame_isFlagged) (sw := sw_Frame_isFlagged) (rt := 1) (pr := pr_Frame_isFlagged) (by decide) [] (fun _ _ _ _ _ _ _ _ _ _ _ => False) 30 ⟨fun h => absurd h (by decide), fun _ => rfl, fun h => absurd h (by decide), fun h => absurd h (by decide)⟩ dk_Frame_isFlagged fo_Frame go_Frame_isFlagged co_Frame_isFlagged (fun a k h hk => by unfold gt_Frame_isFlagged at h; cases h) (fun q hq h => absurd h (nt_Frame_isFlagged q hq)) (fun av σ K kx h => by rw [sR_len h]; decide) ?_ ?_
  · intro av σ K kx hok hSp
    obtain ⟨q0, rfl, hp⟩ := sR_inv hSp
    obtain ⟨k0, e0, i0⟩ := q0
    obtain ⟨h0, h1, h2⟩ := hp
    dsimp only at h0; subst h0
    all_goals (repeat' (first | (with_reducible assumption) | (with_reducible refine IV_upd ?_ ?_) | (with_reducible refine IV_cpy ?_ (fun _ _ _ _ => trivial)) | (refine And.intro ?_ ?_) | (intro _)))
    all_goals first | (first | rfl | decide | (simp only [nrm, strm, by8] at * <;> omega) | (simp [upd4, cpy4, nrm, strm, by8] at * <;> omega)) | (exact h1 (by first | assumption | (first | rfl | decide | (simp only [nrm, strm, by8] at * <;> omega) | (simp [upd4, cpy4, nrm, strm, by8] at * <;> omega)))) | (exact h2 (by first | assumption | (first | rfl | decide | (simp only [nrm, strm, by8] at * <;> omega) | (simp [upd4, cpy4, nrm, strm, by8] at * <;> omega)))) | (exact h1) | (exact h2) | (refine h1 _ ?_ ?_ <;> (repeat' (first | assumption | exact trivial | exact Un_rf | exact hI 4 _ _ _ | exact hI 9 _ _ _ | exact hI 22 _ _ _ | (refine ixr_by8 ?_ ?_) | (refine IV_upd ?_ ?_) | (refine Un_upd rfl ?_) | (refine IV_cpy ?_ (fun _ _ _ _ => trivial)) | (refine Un_cpy rfl ?_) | (apply Un_tr; rotate_left; assumption; rfl) | (refine And.intro ?_ ?_))) <;> (first | rfl | decide | (simp only [nrm, strm, by8] at * <;> omega) | (simp [upd4, cpy4, nrm, strm, by8] at * <;> omega))) | (refine h2 _ ?_ ?_ <;> (repeat' (first | assumption | exact trivial | exact Un_rf | exact hI 4 _ _ _ | exact hI 9 _ _ _ | exact hI 22 _ _ _ | (refine ixr_by8 ?_ ?_) | (refine IV_upd ?_ ?_) | (refine Un_upd rfl ?_) | (refine IV_cpy ?_ (fun _ _ _ _ => trivial)) | (refine Un_cpy rfl ?_) | (apply Un_tr; rotate_left; assumption; rfl) | (refine And.intro ?_ ?_))) <;> (first | rfl | decide | (simp only [nrm, strm, by8] at * <;> omega) | (simp [upd4, cpy4, nrm, strm, by8] at * <;> omega))) | (apply h1 <;> (repeat' (first | assumption | exact trivial | exact Un_rf | exact hI 4 _ _ _ | exact hI 9 _ _ _ | exact hI 22 _ _ _ | (refine ixr_by8 ?_ ?_) | (refine IV_upd ?_ ?_) | (refine Un_upd rfl ?_) | (refine IV_cpy ?_ (fun _ _ _ _ => trivial)) | (refine Un_cpy rfl ?_) | (apply Un_tr; rotate_left; assumption; rfl) | (refine And.intro ?_ ?_))) <;> (first | rfl | decide | (simp only [nrm, strm, by8] at * <;> omega) | (simp [upd4, cpy4, nrm, strm, by8] at * <;> omega))) | (apply h2 <;> (repeat' (first | assumption | exact trivial | exact Un_rf | exact hI 4 _ _ _ | exact hI 9 _ _ _ | exact hI 22 _ _ _ | (refine ixr_by8 ?_ ?_) | (refine IV_upd ?_ ?_) | (refine Un_upd rfl ?_) | (refine IV_cpy ?_ (fun _ _ _ _ => trivial)) | (refine Un_cpy rfl ?_) | (apply Un_tr; rotate_left; assumption; rfl) | (refine And.intro ?_ ?_))) <;> (first | rfl | decide | (simp only [nrm, strm, by8] at * <;> omega) | (simp [upd4, cpy4, nrm, strm, by8] at * <;> omega))) | ((repeat' (first | assumption | exact trivial | exact Un_rf | exact hI 4 _ _ _ | exact hI 9 _ _ _ | exact hI 22 _ _ _ | (refine ixr_by8 ?_ ?_) | (refine IV_upd ?_ ?_) | (refine Un_upd rfl ?_) | (refine IV_cpy ?_ (fun _ _ _ _ => trivial)) | (refine Un_cpy rfl ?_) | (apply Un_tr; rotate_left; assumption; rfl) | (refine And.intro ?_ ?_))) <;> (first | rfl | decide | (simp only [nrm, strm, by8] at * <;> omega) | (simp [upd4, cpy4, nrm, strm, by8] at * <;> omega)))
  · intro av σ K kx n pc L st σ' nc ns _ _ h
    exact (h : False).elim
def gt_Frame_isTooLong (a : Nat) : Option Nat := match a with
  | _ => none
theorem go_Frame_isTooLong : ∀ a v, gt_Frame_isTooLong a = some v → StaOK R_Frame a v := by
  intro a v h
  unfold gt_Frame_isTooLong at h
  cases h
def pr_Frame_isTooLong : List Ent := [(0, 5, 0, 0, 0), (1, 39, 15, 0, 0), (4, 31, 0, 0, 20), (7, 5, 0, 0, 0), (8, 46, 19, 0, 0), (11, 1, 0, 40, 0), (13, 37, 0, 0, 20), (16, 0, 0, 1, 0), (17, 38, 0, 0, 21), (20, 0, 0, 0, 0), (21, 48, 0, 0, 0)]
def sw_Frame_isTooLong : List Swt := []
theorem dk_Frame_isTooLong : ∀ q ∈ pr_Frame_isTooLong, decode b_Frame_isTooLong q.1 = .ok (dec sw_Frame_isTooLong q) ∧ okE q = true := by decide +kernel
theorem nt_Frame_isTooLong : ∀ q ∈ pr_Frame_isTooLong, ¬ q.2.1 = 55 := by decide +kernel
def ct_Frame_isTooLong (a : Nat) : Option (Nat × Nat × CSp × Nat × Nat) := match a with
  | 19 => some (1, 5, sp_Frame_length, 0, 0)
  | _ => none
theorem co_Frame_isTooLong : ∀ a v, ct_Frame_isTooLong a = some v → StcOK R_Frame 1 20 a v := by
  intro a v h
  unfold ct_Frame_isTooLong at h
  split at h
  · cases h; exact ⟨y_Frame_length, b_Frame_length, 1, (some .int), 0, 0, 0, c_Frame_length, by decide, by decide +kernel, by decide +kernel, by decide +kernel, Or.inl ⟨rfl, by decide, by decide +kernel, by decide +kernel, _, _, rfl, by decide +kernel⟩⟩
  · cases h
/-- Frame_isTooLong -/
def sp_Frame_isTooLong : CSp := sR (fun q σ K _ => q.1 = 8 ∧ K (some (.inl 0)) σ ∧ K (some (.inl 1)) σ)
set_option maxHeartbeats 4000000 in
set_option maxRecDepth 100000 in
theorem c_Frame_isTooLong : Ctr y_Frame_isTooLong b_Frame_isTooLong 1 (some .boolean) 1 20 0 0 sp_Frame_isTooLong := by
  refine ctr_of (FT := ft_Frame) (GT := gt_Frame_isTooLong) (CT := ct_Frame_isTooLong) (sw := sw_Frame_isTooLong) (rt := 1) (pr := pr_Frame_isTooLong) (by decide) [] (fun _ _ _ _ _ _ _ _ _ _ _ => False) 30 ⟨fun h => absurd h (by decide), fun _ => rfl, fun h => absurd h (by decide), fun h => absurd h (by decide)⟩ dk_Frame_isTooLong fo_Frame go_Frame_isTooLong co_Frame_isTooLong (fun a k h hk => by unfold gt_Frame_isTooLong at h; cases h) (fun q hq h => absurd h (nt_Frame_isTooLong q hq)) (fun av σ K kx h => by rw [sR_len h]; decide) ?_ ?_
  · intro av σ K kx hok hSp
    obtain ⟨q0, rfl, hp⟩ := sR_inv hSp
    obtain ⟨k0, e0, i0⟩ := q0
    obtain ⟨h0, h1, h2⟩ := hp
    dsimp only at h0; subst h0
    all_goals (repeat' (first | (with_reducible assumption) | (with_reducible refine IV_upd ?_ ?_) | (with_reducible refine IV_cpy ?_ (fun _ _ _ _ => trivial)) | (refine And.intro ?_ ?_) | (intro _)))
    all_goals first | (first | rfl | decide | (simp only [nrm, strm, by8] at * <;> omega) | (simp [upd4, cpy4, nrm, strm, by8] at * <;> omega)) | (exact h1 (by first | assumption | (first | rfl | decide | (simp only [nrm, strm, by8] at * <;> omega) | (simp [upd4, cpy4, nrm, strm, by8] at * <;> omega)))) | (exact h2 (by first | assumption | (first | rfl | decide | (simp only [nrm, strm, by8] at * <;> omega) | (simp [upd4, cpy4, nrm, strm, by8] at * <;> omega)))) | (exact h1) | (exact h2) | (refine h1 _ ?_ ?_ <;> (repeat' (first | assumption | exact trivial | exact Un_rf | exact hI 4 _ _ _ | exact hI 9 _ _ _ | exact hI 22 _ _ _ | (refine ixr_by8 ?_ ?_) | (refine IV_upd ?_ ?_) | (refine Un_upd rfl ?_) | (refine IV_cpy ?_ (fun _ _ _ _ => trivial)) | (refine Un_cpy rfl ?_) | (apply Un_tr; rotate_left; assumption; rfl) | (refine And.intro ?_ ?_))) <;> (first | rfl | decide | (simp only [nrm, strm, by8] at * <;> omega) | (simp [upd4, cpy4, nrm, strm, by8] at * <;> omega))) | (refine h2 _ ?_ ?_ <;> (repeat' (first | assumption | exact trivial | exact Un_rf | exact hI 4 _ _ _ | exact hI 9 _ _ _ | exact hI 22 _ _ _ | (refine ixr_by8 ?_ ?_) | (refine IV_upd ?_ ?_) | (refine Un_upd rfl ?_) | (refine IV_cpy ?_ (fun _ _ _ _ => trivial)) | (refine Un_cpy rfl ?_) | (apply Un_tr; rotate_left; assumption; rfl) | (refine And.intro ?_ ?_))) <;> (first | rfl | decide | (simp only [nrm, strm, by8] at * <;> omega) | (simp [upd4, cpy4, nrm, strm, by8] at * <;> omega))) | (apply h1 <;> (repeat' (first | assumption | exact trivial | exact Un_rf | exact hI 4 _ _ _ | exact hI 9 _ _ _ | exact hI 22 _ _ _ | (refine ixr_by8 ?_ ?_) | (refine IV_upd ?_ ?_) | (refine Un_upd rfl ?_) | (refine IV_cpy ?_ (fun _ _ _ _ => trivial)) | (refine Un_cpy rfl ?_) | (apply Un_tr; rotate_left; assumption; rfl) | (refine And.intro ?_ ?_))) <;> (first | rfl | decide | (simp only [nrm, strm, by8] at * <;> omega) | (simp [upd4, cpy4, nrm, strm, by8] at * <;> omega))) | (apply h2 <;> (repeat' (first | assumption | exact trivial | exact Un_rf | exact hI 4 _ _ _ | exact hI 9 _ _ _ | exact hI 22 _ _ _ | (refine ixr_by8 ?_ ?_) | (refine IV_upd ?_ ?_) | (refine Un_upd rfl ?_) | (refine IV_cpy ?_ (fun _ _ _ _ => trivial)) | (refine Un_cpy rfl ?_) | (apply Un_tr; rotate_left; assumption; rfl) | (refine And.intro ?_ ?_))) <;> (first | rfl | decide | (simp only [nrm, strm, by8] at * <;> omega) | (simp [upd4, cpy4, nrm, strm, by8] at * <;> omega))) | ((repeat' (first | assumption | exact trivial | exact Un_rf | exact hI 4 _ _ _ | exact hI 9 _ _ _ | exact hI 22 _ _ _ | (refine ixr_by8 ?_ ?_) | (refine IV_upd ?_ ?_) | (refine Un_upd rfl ?_) | (refine IV_cpy ?_ (fun _ _ _ _ => trivial)) | (refine Un_cpy rfl ?_) | (apply Un_tr; rotate_left; assumption; rfl) | (refine And.intro ?_ ?_))) <;> (first | rfl | decide | (simp only [nrm, strm, by8] at * <;> omega) | (simp [upd4, cpy4, nrm, strm, by8] at * <;> omega)))
  · intro av σ K kx n pc L st σ' nc ns _ _ h
    exact (h : False).elim
def gt_Frame_isWhole (a : Nat) : Option Nat := match a with
  | _ => none
theorem go_Frame_isWhole : ∀ a v, gt_Frame_isWhole a = some v → StaOK R_Frame a v := by
  intro a v h
  unfold gt_Frame_isWhole at h
  cases h
def pr_Frame_isWhole : List Ent := [(0, 5, 0, 0, 0), (1, 39, 15, 0, 0), (4, 0, 0, 4, 0), (5, 34, 0, 0, 25), (8, 5, 0, 0, 0), (9, 39, 15, 0, 0), (12, 0, 0, 4, 0), (13, 5, 0, 0, 0), (14, 46, 19, 0, 0), (17, 12, 0, 0, 0), (18, 33, 0, 0, 25), (21, 0, 0, 1, 0), (22, 38, 0, 0, 26), (25, 0, 0, 0, 0), (26, 48, 0, 0, 0)]
def sw_Frame_isWhole : List Swt := []
theorem dk_Frame_isWhole : ∀ q ∈ pr_Frame_isWhole, decode b_Frame_isWhole q.1 = .ok (dec sw_Frame_isWhole q) ∧ okE q = true := by decide +kernel
theorem nt_Frame_isWhole : ∀ q ∈ pr_Frame_isWhole, ¬ q.2.1 = 55 := by decide +kernel
def ct_Frame_isWhole (a : Nat) : Option (Nat × Nat × CSp × Nat × Nat) := match a with
  | 19 => some (1, 5, sp_Frame_length, 0, 0)
  | _ => none
theorem co_Frame_isWhole : ∀ a v, ct_Frame_isWhole a = some v → StcOK R_Frame 1 20 a v := by
  intro a v h
  unfold ct_Frame_isWhole at h
  split at h
  · cases h; exact ⟨y_Frame_length, b_Frame_length, 1, (some .int), 0, 0, 0, c_Frame_length, by decide, by decide +kernel, by decide +kernel, by decide +kernel, Or.inl ⟨rfl, by decide, by decide +kernel, by decide +kernel, _, _, rfl, by decide +kernel⟩⟩
  · cases h
/-- Frame_isWhole -/
def sp_Frame_isWhole : CSp := sR (fun q σ K _ => q.1 = 8 ∧ K (some (.inl 0)) σ ∧ K (some (.inl 1)) σ)
set_option maxHeartbeats 4000000 in
set_option maxRecDepth 100000 in
theorem c_Frame_isWhole : Ctr y_Frame_isWhole b_Frame_isWhole 1 (some .boolean) 1 20 0 0 sp_Frame_isWhole := by
  refine ctr_of (FT := ft_Frame) (GT := gt_Frame_isWhole) (CT := ct_Frame_isWhole) (sw := sw_Frame_isWhole) (rt := 1) (pr := pr_Frame_isWhole) (by decide) [] (fun _ _ _ _ _ _ _ _ _ _ _ => False) 30 ⟨fun h => absurd h (by decide), fun _ => rfl, fun h => absurd h (by decide), fun h => absurd h (by decide)⟩ dk_Frame_isWhole fo_Frame go_Frame_isWhole co_Frame_isWhole (fun a k h hk => by unfold gt_Frame_isWhole at h; cases h) (fun q hq h => absurd h (nt_Frame_isWhole q hq)) (fun av σ K kx h => by rw [sR_len h]; decide) ?_ ?_
  · intro av σ K kx hok hSp
    obtain ⟨q0, rfl, hp⟩ := sR_inv hSp
    obtain ⟨k0, e0, i0⟩ := q0
    obtain ⟨h0, h1, h2⟩ := hp
    dsimp only at h0; subst h0
    all_goals (repeat' (first | (with_reducible assumption) | (with_reducible refine IV_upd ?_ ?_) | (with_reducible refine IV_cpy ?_ (fun _ _ _ _ => trivial)) | (refine And.intro ?_ ?_) | (intro _)))
    all_goals first | (first | rfl | decide | (simp only [nrm, strm, by8] at * <;> omega) | (simp [upd4, cpy4, nrm, strm, by8] at * <;> omega)) | (exact h1 (by first | assumption | (first | rfl | decide | (simp only [nrm, strm, by8] at * <;> omega) | (simp [upd4, cpy4, nrm, strm, by8] at * <;> omega)))) | (exact h2 (by first | assumption | (first | rfl | decide | (simp only [nrm, strm, by8] at * <;> omega) | (simp [upd4, cpy4, nrm, strm, by8] at * <;> omega)))) | (exact h1) | (exact h2) | (refine h1 _ ?_ ?_ <;> (repeat' (first | assumption | exact trivial | exact Un_rf | exact hI 4 _ _ _ | exact hI 9 _ _ _ | exact hI 22 _ _ _ | (refine ixr_by8 ?_ ?_) | (refine IV_upd ?_ ?_) | (refine Un_upd rfl ?_) | (refine IV_cpy ?_ (fun _ _ _ _ => trivial)) | (refine Un_cpy rfl ?_) | (apply Un_tr; rotate_left; assumption; rfl) | (refine And.intro ?_ ?_))) <;> (first | rfl | decide | (simp only [nrm, strm, by8] at * <;> omega) | (simp [upd4, cpy4, nrm, strm, by8] at * <;> omega))) | (refine h2 _ ?_ ?_ <;> (repeat' (first | assumption | exact trivial | exact Un_rf | exact hI 4 _ _ _ | exact hI 9 _ _ _ | exact hI 22 _ _ _ | (refine ixr_by8 ?_ ?_) | (refine IV_upd ?_ ?_) | (refine Un_upd rfl ?_) | (refine IV_cpy ?_ (fun _ _ _ _ => trivial)) | (refine Un_cpy rfl ?_) | (apply Un_tr; rotate_left; assumption; rfl) | (refine And.intro ?_ ?_))) <;> (first | rfl | decide | (simp only [nrm, strm, by8] at * <;> omega) | (simp [upd4, cpy4, nrm, strm, by8] at * <;> omega))) | (apply h1 <;> (repeat' (first | assumption | exact trivial | exact Un_rf | exact hI 4 _ _ _ | exact hI 9 _ _ _ | exact hI 22 _ _ _ | (refine ixr_by8 ?_ ?_) | (refine IV_upd ?_ ?_) | (refine Un_upd rfl ?_) | (refine IV_cpy ?_ (fun _ _ _ _ => trivial)) | (refine Un_cpy rfl ?_) | (apply Un_tr; rotate_left; assumption; rfl) | (refine And.intro ?_ ?_))) <;> (first | rfl | decide | (simp only [nrm, strm, by8] at * <;> omega) | (simp [upd4, cpy4, nrm, strm, by8] at * <;> omega))) | (apply h2 <;> (repeat' (first | assumption | exact trivial | exact Un_rf | exact hI 4 _ _ _ | exact hI 9 _ _ _ | exact hI 22 _ _ _ | (refine ixr_by8 ?_ ?_) | (refine IV_upd ?_ ?_) | (refine Un_upd rfl ?_) | (refine IV_cpy ?_ (fun _ _ _ _ => trivial)) | (refine Un_cpy rfl ?_) | (apply Un_tr; rotate_left; assumption; rfl) | (refine And.intro ?_ ?_))) <;> (first | rfl | decide | (simp only [nrm, strm, by8] at * <;> omega) | (simp [upd4, cpy4, nrm, strm, by8] at * <;> omega))) | ((repeat' (first | assumption | exact trivial | exact Un_rf | exact hI 4 _ _ _ | exact hI 9 _ _ _ | exact hI 22 _ _ _ | (refine ixr_by8 ?_ ?_) | (refine IV_upd ?_ ?_) | (refine Un_upd rfl ?_) | (refine IV_cpy ?_ (fun _ _ _ _ => trivial)) | (refine Un_cpy rfl ?_) | (apply Un_tr; rotate_left; assumption; rfl) | (refine And.intro ?_ ?_))) <;> (first | rfl | decide | (simp only [nrm, strm, by8] at * <;> omega) | (simp [upd4, cpy4, nrm, strm, by8] at * <;> omega)))
  · intro av σ K kx n pc L st σ' nc ns _ _ h
    exact (h : False).elim
def gt_Frame_at (a : Nat) : Option Nat := match a with
  | _ => none
theorem go_Frame_at : ∀ a v, gt_Frame_at a = some v → StaOK R_Frame a v := by
  intro a v h
  unfold gt_Frame_at at h
  cases h
def pr_Frame_at : List Ent := [(0, 3, 1, 0, 0), (1, 28, 0, 0, 21), (4, 3, 1, 0, 0), (5, 1, 0, 40, 0), (7, 35, 0, 0, 21), (10, 5, 0, 0, 0), (11, 39, 9, 0, 0), (14, 0, 0, 4, 0), (15, 3, 1, 0, 0), (16, 12, 0, 0, 0), (17, 41, 0, 0, 0), (18, 38, 0, 0, 22), (21, 0, 0, 0, 0), (22, 48, 0, 0, 0)]
def sw_Frame_at : List Swt := []
theorem dk_Frame_at : ∀ q ∈ pr_Frame_at, decode b_Frame_at q.1 = .ok (dec sw_Frame_at q) ∧ okE q = true := by decide +kernel
theorem nt_Frame_at : ∀ q ∈ pr_Frame_at, ¬ q.2.1 = 55 := by decide +kernel
def ct_Frame_at (a : Nat) : Option (Nat × Nat × CSp × Nat × Nat) := match a with
  | _ => none
theorem co_Frame_at : ∀ a v, ct_Frame_at a = some v → StcOK R_Frame 0 0 a v := by
  intro a v h
  unfold ct_Frame_at at h
  cases h
/-- Frame_at -/
def sp_Frame_at : CSp := sRI (fun q x σ K _ => q.1 = 8 ∧ IV σ ∧ ∀ r, by8 r → K (some (.inl r)) σ)
set_option maxHeartbeats 4000000 in
set_option maxRecDepth 100000 in
theorem c_Frame_at : Ctr y_Frame_at b_Frame_at 2 (some .int) 0 0 0 0 sp_Frame_at := by
  refine ctr_of (FT := ft_Frame) (GT := gt_Frame_at) (CT := ct_Frame_at) (sw := sw_Frame_at) (rt := 0) (pr := pr_Frame_at) (by decide) [] (fun _ _ _ _ _ _ _ _ _ _ _ => False) 30 ⟨fun _ => rfl, fun h => absurd h (by decide), fun h => absurd h (by decide), fun h => absurd h (by decide)⟩ dk_Frame_at fo_Frame go_Frame_at co_Frame_at (fun a k h hk => by unfold gt_Frame_at at h; cases h) (fun q hq h => absurd h (nt_Frame_at q hq)) (fun av σ K kx h => by rw [sRI_len h]; decide) ?_ ?_
  · intro av σ K kx hok hSp
    obtain ⟨q0, x0, rfl, hp⟩ := sRI_inv hSp
    obtain ⟨k0, e0, i0⟩ := q0
    obtain ⟨h0, hI, h2⟩ := hp
    dsimp only at h0; subst h0
    all_goals (repeat' (first | (with_reducible assumption) | (with_reducible refine IV_upd ?_ ?_) | (with_reducible refine IV_cpy ?_ (fun _ _ _ _ => trivial)) | (refine And.intro ?_ ?_) | (intro _)))
    all_goals first | (first | rfl | decide | (simp only [nrm, strm, by8] at * <;> omega) | (simp [upd4, cpy4, nrm, strm, by8] at * <;> omega)) | (exact h2) | (refine h2 _ ?_ ?_ <;> (repeat' (first | assumption | exact trivial | exact Un_rf | exact hI 4 _ _ _ | exact hI 9 _ _ _ | exact hI 22 _ _ _ | (refine ixr_by8 ?_ ?_) | (refine IV_upd ?_ ?_) | (refine Un_upd rfl ?_) | (refine IV_cpy ?_ (fun _ _ _ _ => trivial)) | (refine Un_cpy rfl ?_) | (apply Un_tr; rotate_left; assumption; rfl) | (refine And.intro ?_ ?_))) <;> (first | rfl | decide | (simp only [nrm, strm, by8] at * <;> omega) | (simp [upd4, cpy4, nrm, strm, by8] at * <;> omega))) | (apply h2 <;> (repeat' (first | assumption | exact trivial | exact Un_rf | exact hI 4 _ _ _ | exact hI 9 _ _ _ | exact hI 22 _ _ _ | (refine ixr_by8 ?_ ?_) | (refine IV_upd ?_ ?_) | (refine Un_upd rfl ?_) | (refine IV_cpy ?_ (fun _ _ _ _ => trivial)) | (refine Un_cpy rfl ?_) | (apply Un_tr; rotate_left; assumption; rfl) | (refine And.intro ?_ ?_))) <;> (first | rfl | decide | (simp only [nrm, strm, by8] at * <;> omega) | (simp [upd4, cpy4, nrm, strm, by8] at * <;> omega))) | ((repeat' (first | assumption | exact trivial | exact Un_rf | exact hI 4 _ _ _ | exact hI 9 _ _ _ | exact hI 22 _ _ _ | (refine ixr_by8 ?_ ?_) | (refine IV_upd ?_ ?_) | (refine Un_upd rfl ?_) | (refine IV_cpy ?_ (fun _ _ _ _ => trivial)) | (refine Un_cpy rfl ?_) | (apply Un_tr; rotate_left; assumption; rfl) | (refine And.intro ?_ ?_))) <;> (first | rfl | decide | (simp only [nrm, strm, by8] at * <;> omega) | (simp [upd4, cpy4, nrm, strm, by8] at * <;> omega)))
  · intro av σ K kx n pc L st σ' nc ns _ _ h
    exact (h : False).elim
def gt_Frame_sum (a : Nat) : Option Nat := match a with
  | _ => none
theorem go_Frame_sum : ∀ a v, gt_Frame_sum a = some v → StaOK R_Frame a v := by
  intro a v h
  unfold gt_Frame_sum at h
  cases h
def pr_Frame_sum : List Ent := [(0, 0, 0, 0, 0), (1, 7, 1, 0, 0), (2, 0, 0, 4, 0), (3, 7, 2, 0, 0), (4, 3, 2, 0, 0), (5, 5, 0, 0, 0), (6, 39, 15, 0, 0), (9, 35, 0, 0, 27), (12, 3, 1, 0, 0), (13, 5, 0, 0, 0), (14, 39, 9, 0, 0), (17, 3, 2, 0, 0), (18, 41, 0, 0, 0), (19, 12, 0, 0, 0), (20, 7, 1, 0, 0), (21, 11, 2, 1, 0), (24, 38, 0, 0, 4), (27, 3, 1, 0, 0), (28, 48, 0, 0, 0)]
def sw_Frame_sum : List Swt := []
theorem dk_Frame_sum : ∀ q ∈ pr_Frame_sum, decode b_Frame_sum q.1 = .ok (dec sw_Frame_sum q) ∧ okE q = true := by decide +kernel
theorem nt_Frame_sum : ∀ q ∈ pr_Frame_sum, ¬ q.2.1 = 55 := by decide +kernel
def ct_Frame_sum (a : Nat) : Option (Nat × Nat × CSp × Nat × Nat) := match a with
  | _ => none
theorem co_Frame_sum : ∀ a v, ct_Frame_sum a = some v → StcOK R_Frame 0 0 a v := by
  intro a v h
  unfold ct_Frame_sum at h
  cases h
/-- Frame_sum -/
def sp_Frame_sum : CSp := sR (fun q σ K _ => q.1 = 8 ∧ IV σ ∧ ∀ r, K (some (.inl r)) σ)
set_option maxHeartbeats 4000000 in
set_option maxRecDepth 100000 in
theorem c_Frame_sum : Ctr y_Frame_sum b_Frame_sum 3 (some .int) 0 0 0 0 sp_Frame_sum := by
  refine ctr_of (FT := ft_Frame) (GT := gt_Frame_sum) (CT := ct_Frame_sum) (sw := sw_Frame_sum) (rt := 0) (pr := pr_Frame_sum) (by decide) [4] (fun av σ _ _ n pc L st σ' nc ns => ∃ e i s k, av = [.inr (8, e, i)] ∧ pc = 4 ∧ L = [some (.inr (8, e, i)), some (.inl s), some (.inl k)] ∧ st = [] ∧ σ' = σ ∧ nc = 0 ∧ ns = 0 ∧ 4 ≤ k ∧ k ≤ 44 ∧ n = (44 - k).toNat) 30 ⟨fun _ => rfl, fun h => absurd h (by decide), fun h => absurd h (by decide), fun h => absurd h (by decide)⟩ dk_Frame_sum fo_Frame go_Frame_sum co_Frame_sum (fun a k h hk => by unfold gt_Frame_sum at h; cases h) (fun q hq h => absurd h (nt_Frame_sum q hq)) (fun av σ K kx h => by rw [sR_len h]; decide) ?_ ?_
  · intro av σ K kx hok hSp
    obtain ⟨q0, rfl, hp⟩ := sR_inv hSp
    obtain ⟨k0, e0, i0⟩ := q0
    obtain ⟨h0, hI, h2⟩ := hp
    dsimp only at h0; subst h0
    exact ⟨40, e0, i0, 0, 4, rfl, rfl, rfl, rfl, rfl, rfl, rfl, by omega, by omega, rfl⟩
  · intro av σ K kx n pc L st σ' nc ns hok hSp hJ
    obtain ⟨e, i, s, k, rfl, rfl, rfl, rfl, rfl, rfl, rfl, h0, h6, hn⟩ := hJ
    obtain ⟨-, hI, hk⟩ : (8 : Nat) = 8 ∧ IV σ' ∧ ∀ r, K (some (.inl r)) σ' := hSp
    have i1 : 0 ≤ σ' 8 e i 1 ∧ σ' 8 e i 1 ≤ 44 := hI 8 e i 1
    refine And.intro (fun h => ?_) (fun h => And.intro ?_ ?_)
    · exact hk _
    · simp only [nrm] at h ⊢
      omega
    · refine ⟨(44 - (k + 1)).toNat, ?_, e, i, _, k + 1, rfl, rfl, rfl, rfl, rfl, rfl, rfl, by omega, ?_, rfl⟩
      · simp only [nrm] at h; omega
      · simp only [nrm] at h; omega
def gt_Frame_isWellFormed (a : Nat) : Option Nat := match a with
  | _ => none
theorem go_Frame_isWellFormed : ∀ a v, gt_Frame_isWellFormed a = some v → StaOK R_Frame a v := by
  intro a v h
  unfold gt_Frame_isWellFormed at h
  cases h
def pr_Frame_isWellFormed : List Ent := [(0, 5, 0, 0, 0), (1, 46, 19, 0, 0), (4, 7, 1, 0, 0), (5, 5, 0, 0, 0), (6, 46, 23, 0, 0), (9, 27, 0, 0, 16), (12, 0, 0, 1, 0), (13, 38, 0, 0, 17), (16, 0, 0, 0, 0), (17, 7, 2, 0, 0), (18, 5, 0, 0, 0), (19, 46, 26, 0, 0), (22, 51, 0, 0, 0), (72, 5, 0, 0, 0), (73, 46, 23, 0, 0), (76, 47, 29, 0, 0), (79, 48, 0, 0, 0), (80, 5, 0, 0, 0), (81, 46, 23, 0, 0), (84, 47, 29, 0, 0), (87, 26, 0, 0, 99), (90, 3, 1, 0, 0), (91, 0, 0, 1, 0), (92, 33, 0, 0, 99), (95, 0, 0, 1, 0), (96, 38, 0, 0, 100), (99, 0, 0, 0, 0), (100, 48, 0, 0, 0), (101, 3, 2, 0, 0), (102, 26, 0, 0, 125), (105, 3, 1, 0, 0), (106, 5, 0, 0, 0), (107, 46, 33, 0, 0), (110, 26, 0, 0, 117), (113, 0, 0, 0, 0), (114, 38, 0, 0, 118), (117, 0, 0, 2, 0), (118, 33, 0, 0, 125), (121, 0, 0, 1, 0), (122, 38, 0, 0, 126), (125, 0, 0, 0, 0), (126, 48, 0, 0, 0), (127, 3, 2, 0, 0), (128, 26, 0, 0, 140), (131, 3, 1, 0, 0), (132, 0, 0, 1, 0), (133, 33, 0, 0, 140), (136, 0, 0, 1, 0), (137, 38, 0, 0, 141), (140, 0, 0, 0, 0), (141, 48, 0, 0, 0), (142, 3, 2, 0, 0), (143, 26, 0, 0, 155), (146, 3, 1, 0, 0), (147, 0, 0, 2, 0), (148, 33, 0, 0, 155), (151, 0, 0, 1, 0), (152, 38, 0, 0, 156), (155, 0, 0, 0, 0), (156, 48, 0, 0, 0), (157, 3, 2, 0, 0), (158, 27, 0, 0, 171), (161, 5, 0, 0, 0), (162, 46, 23, 0, 0), (165, 47, 29, 0, 0), (168, 26, 0, 0, 180), (171, 3, 1, 0, 0), (172, 0, 0, 1, 0), (173, 33, 0, 0, 180), (176, 0, 0, 1, 0), (177, 38, 0, 0, 181), (180, 0, 0, 0, 0), (181, 48, 0, 0, 0), (182, 0, 0, 1, 0), (183, 48, 0, 0, 0)]
def sw_Frame_isWellFormed : List Swt := [(0, [72, 72, 182, 80, 101, 182, 127, 142, 157], 182, 50)]
theorem dk_Frame_isWellFormed : ∀ q ∈ pr_Frame_isWellFormed, decode b_Frame_isWellFormed q.1 = .ok (dec sw_Frame_isWellFormed q) ∧ okE q = true := by decide +kernel
theorem nt_Frame_isWellFormed : ∀ q ∈ pr_Frame_isWellFormed, ¬ q.2.1 = 55 := by decide +kernel
def ct_Frame_isWellFormed (a : Nat) : Option (Nat × Nat × CSp × Nat × Nat) := match a with
  | 19 => some (1, 5, sp_Frame_length, 0, 0)
  | 23 => some (1, 5, sp_Frame_streamNumber, 0, 0)
  | 26 => some (1, 5, sp_Frame_type, 0, 0)
  | 29 => some (1, 1000, sp_FrameStreams_isStream, 0, 0)
  | 33 => some (1, 5, sp_Frame_isFlagged, 0, 0)
  | _ => none
theorem co_Frame_isWellFormed : ∀ a v, ct_Frame_isWellFormed a = some v → StcOK R_Frame 1 20 a v := by
  intro a v h
  unfold ct_Frame_isWellFormed at h
  split at h
  · cases h; exact ⟨y_Frame_length, b_Frame_length, 1, (some .int), 0, 0, 0, c_Frame_length, by decide, by decide +kernel, by decide +kernel, by decide +kernel, Or.inl ⟨rfl, by decide, by decide +kernel, by decide +kernel, _, _, rfl, by decide +kernel⟩⟩
  · cases h; exact ⟨y_Frame_streamNumber, b_Frame_streamNumber, 1, (some .int), 0, 0, 0, c_Frame_streamNumber, by decide, by decide +kernel, by decide +kernel, by decide +kernel, Or.inl ⟨rfl, by decide, by decide +kernel, by decide +kernel, _, _, rfl, by decide +kernel⟩⟩
  · cases h; exact ⟨y_Frame_type, b_Frame_type, 1, (some .int), 0, 0, 0, c_Frame_type, by decide, by decide +kernel, by decide +kernel, by decide +kernel, Or.inl ⟨rfl, by decide, by decide +kernel, by decide +kernel, _, _, rfl, by decide +kernel⟩⟩
  · cases h; exact ⟨y_FrameStreams_isStream, b_FrameStreams_isStream, 1, (some .boolean), 0, 0, 1, c_FrameStreams_isStream, by decide, by decide +kernel, by decide +kernel, by decide +kernel, (by first | exact Or.inr (Or.inl ⟨rfl, rfl, by decide +kernel, by decide +kernel⟩) | exact Or.inr (Or.inr ⟨rfl, rfl, ⟨"FrameStreams", by decide +kernel⟩, by decide +kernel⟩))⟩
  · cases h; exact ⟨y_Frame_isFlagged, b_Frame_isFlagged, 1, (some .boolean), 0, 0, 0, c_Frame_isFlagged, by decide, by decide +kernel, by decide +kernel, by decide +kernel, Or.inl ⟨rfl, by decide, by decide +kernel, by decide +kernel, _, _, rfl, by decide +kernel⟩⟩
  · cases h
/-- Frame_isWellFormed -/
def sp_Frame_isWellFormed : CSp := sR (fun q σ K _ => q.1 = 8 ∧ K (some (.inl 0)) σ ∧ K (some (.inl 1)) σ)
set_option maxHeartbeats 4000000 in
set_option maxRecDepth 100000 in
theorem c_Frame_isWellFormed : Ctr y_Frame_isWellFormed b_Frame_isWellFormed 3 (some .boolean) 1 20 0 0 sp_Frame_isWellFormed := by
  refine ctr_of (FT := ft_Frame) (GT := gt_Frame_isWellFormed) (CT := ct_Frame_isWellFormed) (sw := sw_Frame_isWellFormed) (rt := 1) (pr := pr_Frame_isWellFormed) (by decide) [] (fun _ _ _ _ _ _ _ _ _ _ _ => False) 90 ⟨fun h => absurd h (by decide), fun _ => rfl, fun h => absurd h (by decide), fun h => absurd h (by decide)⟩ dk_Frame_isWellFormed fo_Frame go_Frame_isWellFormed co_Frame_isWellFormed (fun a k h hk => by unfold gt_Frame_isWellFormed at h; cases h) (fun q hq h => absurd h (nt_Frame_isWellFormed q hq)) (fun av σ K kx h => by rw [sR_len h]; decide) ?_ ?_
  · intro av σ K kx hok hSp
    obtain ⟨q0, rfl, hp⟩ := sR_inv hSp
    obtain ⟨k0, e0, i0⟩ := q0
    obtain ⟨h0, h1, h2⟩ := hp
    dsimp only at h0; subst h0
    all_goals (repeat' (first | (with_reducible assumption) | (with_reducible refine IV_upd ?_ ?_) | (with_reducible refine IV_cpy ?_ (fun _ _ _ _ => trivial)) | (refine And.intro ?_ ?_) | (intro _)))
    all_goals first | (first | rfl | decide | (simp only [nrm, strm, by8] at * <;> omega) | (simp [upd4, cpy4, nrm, strm, by8] at * <;> omega)) | (exact h1 (by first | assumption | (first | rfl | decide | (simp only [nrm, strm, by8] at * <;> omega) | (simp [upd4, cpy4, nrm, strm, by8] at * <;> omega)))) | (exact h2 (by first | assumption | (first | rfl | decide | (simp only [nrm, strm, by8] at * <;> omega) | (simp [upd4, cpy4, nrm, strm, by8] at * <;> omega)))) | (exact h1) | (exact h2) | (refine h1 _ ?_ ?_ <;> (repeat' (first | assumption | exact trivial | exact Un_rf | exact hI 4 _ _ _ | exact hI 9 _ _ _ | exact hI 22 _ _ _ | (refine ixr_by8 ?_ ?_) | (refine IV_upd ?_ ?_) | (refine Un_upd rfl ?_) | (refine IV_cpy ?_ (fun _ _ _ _ => trivial)) | (refine Un_cpy rfl ?_) | (apply Un_tr; rotate_left; assumption; rfl) | (refine And.intro ?_ ?_))) <;> (first | rfl | decide | (simp only [nrm, strm, by8] at * <;> omega) | (simp [upd4, cpy4, nrm, strm, by8] at * <;> omega))) | (refine h2 _ ?_ ?_ <;> (repeat' (first | assumption | exact trivial | exact Un_rf | exact hI 4 _ _ _ | exact hI 9 _ _ _ | exact hI 22 _ _ _ | (refine ixr_by8 ?_ ?_) | (refine IV_upd ?_ ?_) | (refine Un_upd rfl ?_) | (refine IV_cpy ?_ (fun _ _ _ _ => trivial)) | (refine Un_cpy rfl ?_) | (apply Un_tr; rotate_left; assumption; rfl) | (refine And.intro ?_ ?_))) <;> (first | rfl | decide | (simp only [nrm, strm, by8] at * <;> omega) | (simp [upd4, cpy4, nrm, strm, by8] at * <;> omega))) | (apply h1 <;> (repeat' (first | assumption | exact trivial | exact Un_rf | exact hI 4 _ _ _ | exact hI 9 _ _ _ | exact hI 22 _ _ _ | (refine ixr_by8 ?_ ?_) | (refine IV_upd ?_ ?_) | (refine Un_upd rfl ?_) | (refine IV_cpy ?_ (fun _ _ _ _ => trivial)) | (refine Un_cpy rfl ?_) | (apply Un_tr; rotate_left; assumption; rfl) | (refine And.intro ?_ ?_))) <;> (first | rfl | decide | (simp only [nrm, strm, by8] at * <;> omega) | (simp [upd4, cpy4, nrm, strm, by8] at * <;> omega))) | (apply h2 <;> (repeat' (first | assumption | exact trivial | exact Un_rf | exact hI 4 _ _ _ | exact hI 9 _ _ _ | exact hI 22 _ _ _ | (refine ixr_by8 ?_ ?_) | (refine IV_upd ?_ ?_) | (refine Un_upd rfl ?_) | (refine IV_cpy ?_ (fun _ _ _ _ => trivial)) | (refine Un_cpy rfl ?_) | (apply Un_tr; rotate_left; assumption; rfl) | (refine And.intro ?_ ?_))) <;> (first | rfl | decide | (simp only [nrm, strm, by8] at * <;> omega) | (simp [upd4, cpy4, nrm, strm, by8] at * <;> omega))) | ((repeat' (first | assumption | exact trivial | exact Un_rf | exact hI 4 _ _ _ | exact hI 9 _ _ _ | exact hI 22 _ _ _ | (refine ixr_by8 ?_ ?_) | (refine IV_upd ?_ ?_) | (refine Un_upd rfl ?_) | (refine IV_cpy ?_ (fun _ _ _ _ => trivial)) | (refine Un_cpy rfl ?_) | (apply Un_tr; rotate_left; assumption; rfl) | (refine And.intro ?_ ?_))) <;> (first | rfl | decide | (simp only [nrm, strm, by8] at * <;> omega) | (simp [upd4, cpy4, nrm, strm, by8] at * <;> omega)))
  · intro av σ K kx n pc L st σ' nc ns _ _ h
    exact (h : False).elim
end
section
theorem IV_T {σ : Sg} (hI : IV σ) {k : Nat} (hk : kT k) (e i : Nat) : 0 ≤ σ k e i 3 ∧ σ k e i 3 ≤ 8 := by
  rcases hk with h | h | h <;> subst h
  · exact hI 14 e i 3
  · exact hI 18 e i 3
  · exact hI 24 e i 3
theorem IV_F {σ : Sg} (hI : IV σ) {k : Nat} (hk : kF k) (e i : Nat) : 0 ≤ σ k e i 2 ∧ σ k e i 2 ≤ 5 := by
  rcases hk with h | h | h <;> subst h
  · exact hI 10 e i 2
  · exact hI 28 e i 2
  · exact hI 35 e i 2
def ft_Fields (a : Nat) : Option (Nat × Nat × Nat) := match a with
  | 9 => some (4, 0, 2)
  | 15 => some (4, 1, 2)
  | 18 => some (4, 2, 0)
  | _ => none
theorem fo_Fields : ∀ a v, ft_Fields a = some v → FldOK R_Fields a v := by
  intro a v h
  unfold ft_Fields at h
  split at h
  · cases h; exact fl_Fields _ _ _ _ (by decide) (by decide +kernel) (by decide)
  · cases h; exact fl_Fields _ _ _ _ (by decide) (by decide +kernel) (by decide)
  · cases h; exact fl_Fields _ _ _ _ (by decide) (by decide +kernel) (by decide)
  · cases h
def gt_Fields_count (a : Nat) : Option Nat := match a with
  | _ => none
theorem go_Fields_count : ∀ a v, gt_Fields_count a = some v → StaOK R_Fields a v := by
  intro a v h
  unfold gt_Fields_count at h
  cases h
def pr_Fields_count : List Ent := [(0, 5, 0, 0, 0), (1, 39, 18, 0, 0), (4, 48, 0, 0, 0)]
def sw_Fields_count : List Swt := []
theorem dk_Fields_count : ∀ q ∈ pr_Fields_count, decode b_Fields_count q.1 = .ok (dec sw_Fields_count q) ∧ okE q = true := by decide +kernel
theorem nt_Fields_count : ∀ q ∈ pr_Fields_count, ¬ q.2.1 = 55 := by decide +kernel
def ct_Fields_count (a : Nat) : Option (Nat × Nat × CSp × Nat × Nat) := match a with
  | _ => none
theorem co_Fields_count : ∀ a v, ct_Fields_count a = some v → StcOK R_Fields 0 0 a v := by
  intro a v h
  unfold ct_Fields_count at h
  cases h
/-- Fields_count -/
def sp_Fields_count : CSp := sR (fun q σ K _ => kF q.1 ∧ K (some (.inl (σ q.1 q.2.1 q.2.2 2))) σ)
set_option maxHeartbeats 4000000 in
set_option maxRecDepth 100000 in
theorem c_Fields_count : Ctr y_Fields_count b_Fields_count 1 (some .int) 0 0 0 0 sp_Fields_count := by
  refine ctr_of (FT := ft_Fields) (GT := gt_Fields_count) (CT := ct_Fields_count) (sw := sw_Fields_count) (rt := 0) (pr := pr_Fields_count) (by decide) [] (fun _ _ _ _ _ _ _ _ _ _ _ => False) 20 ⟨fun _ => rfl, fun h => absurd h (by decide), fun h => absurd h (by decide), fun h => absurd h (by decide)⟩ dk_Fields_count fo_Fields go_Fields_count co_Fields_count (fun a k h hk => by unfold gt_Fields_count at h; cases h) (fun q hq h => absurd h (nt_Fields_count q hq)) (fun av σ K kx h => by rw [sR_len h]; decide) ?_ ?_
  · intro av σ K kx hok hSp
    obtain ⟨q0, rfl, hp⟩ := sR_inv hSp
    obtain ⟨k0, e0, i0⟩ := q0
    obtain ⟨h0, h1⟩ := hp
    all_goals (rcases h0 with h0 | h0 | h0)
    all_goals (dsimp only at h0; subst h0)
    all_goals (repeat' (first | (with_reducible assumption) | (with_reducible refine IV_upd ?_ ?_) | (with_reducible refine IV_cpy ?_ (fun _ _ _ _ => trivial)) | (refine And.intro ?_ ?_) | (intro _)))
    all_goals first | (first | rfl | decide | (simp only [nrm, strm, by8] at * <;> omega) | (simp [upd4, cpy4, nrm, strm, by8] at * <;> omega)) | (exact h1 (by first | assumption | (first | rfl | decide | (simp only [nrm, strm, by8] at * <;> omega) | (simp [upd4, cpy4, nrm, strm, by8] at * <;> omega)))) | (exact h1) | (refine h1 _ ?_ ?_ <;> (repeat' (first | assumption | exact trivial | exact Un_rf | exact hI 4 _ _ _ | exact hI 9 _ _ _ | exact hI 22 _ _ _ | (refine ixr_by8 ?_ ?_) | (refine IV_upd ?_ ?_) | (refine Un_upd rfl ?_) | (refine IV_cpy ?_ (fun _ _ _ _ => trivial)) | (refine Un_cpy rfl ?_) | (apply Un_tr; rotate_left; assumption; rfl) | (refine And.intro ?_ ?_))) <;> (first | rfl | decide | (simp only [nrm, strm, by8] at * <;> omega) | (simp [upd4, cpy4, nrm, strm, by8] at * <;> omega))) | (apply h1 <;> (repeat' (first | assumption | exact trivial | exact Un_rf | exact hI 4 _ _ _ | exact hI 9 _ _ _ | exact hI 22 _ _ _ | (refine ixr_by8 ?_ ?_) | (refine IV_upd ?_ ?_) | (refine Un_upd rfl ?_) | (refine IV_cpy ?_ (fun _ _ _ _ => trivial)) | (refine Un_cpy rfl ?_) | (apply Un_tr; rotate_left; assumption; rfl) | (refine And.intro ?_ ?_))) <;> (first | rfl | decide | (simp only [nrm, strm, by8] at * <;> omega) | (simp [upd4, cpy4, nrm, strm, by8] at * <;> omega))) | ((repeat' (first | assumption | exact trivial | exact Un_rf | exact hI 4 _ _ _ | exact hI 9 _ _ _ | exact hI 22 _ _ _ | (refine ixr_by8 ?_ ?_) | (refine IV_upd ?_ ?_) | (refine Un_upd rfl ?_) | (refine IV_cpy ?_ (fun _ _ _ _ => trivial)) | (refine Un_cpy rfl ?_) | (apply Un_tr; rotate_left; assumption; rfl) | (refine And.intro ?_ ?_))) <;> (first | rfl | decide | (simp only [nrm, strm, by8] at * <;> omega) | (simp [upd4, cpy4, nrm, strm, by8] at * <;> omega)))
  · intro av σ K kx n pc L st σ' nc ns _ _ h
    exact (h : False).elim
def gt_Fields_clear (a : Nat) : Option Nat := match a with
  | _ => none
theorem go_Fields_clear : ∀ a v, gt_Fields_clear a = some v → StaOK R_Fields a v := by
  intro a v h
  unfold gt_Fields_clear at h
  cases h
def pr_Fields_clear : List Ent := [(0, 5, 0, 0, 0), (1, 0, 0, 0, 0), (2, 40, 18, 0, 0), (5, 49, 0, 0, 0)]
def sw_Fields_clear : List Swt := []
theorem dk_Fields_clear : ∀ q ∈ pr_Fields_clear, decode b_Fields_clear q.1 = .ok (dec sw_Fields_clear q) ∧ okE q = true := by decide +kernel
theorem nt_Fields_clear : ∀ q ∈ pr_Fields_clear, ¬ q.2.1 = 55 := by decide +kernel
def ct_Fields_clear (a : Nat) : Option (Nat × Nat × CSp × Nat × Nat) := match a with
  | _ => none
theorem co_Fields_clear : ∀ a v, ct_Fields_clear a = some v → StcOK R_Fields 0 0 a v := by
  intro a v h
  unfold ct_Fields_clear at h
  cases h
/-- Fields_clear -/
def sp_Fields_clear : CSp := sR (fun q σ K _ => kF q.1 ∧ IV σ ∧ ∀ σ', IV σ' → Un [q.1] σ σ' → K none σ')
set_option maxHeartbeats 4000000 in
set_option maxRecDepth 100000 in
theorem c_Fields_clear : Ctr y_Fields_clear b_Fields_clear 1 none 0 0 0 0 sp_Fields_clear := by
  refine ctr_of (FT := ft_Fields) (GT := gt_Fields_clear) (CT := ct_Fields_clear) (sw := sw_Fields_clear) (rt := 2) (pr := pr_Fields_clear) (by decide) [] (fun _ _ _ _ _ _ _ _ _ _ _ => False) 20 ⟨fun h => absurd h (by decide), fun h => absurd h (by decide), fun _ => rfl, fun h => absurd h (by decide)⟩ dk_Fields_clear fo_Fields go_Fields_clear co_Fields_clear (fun a k h hk => by unfold gt_Fields_clear at h; cases h) (fun q hq h => absurd h (nt_Fields_clear q hq)) (fun av σ K kx h => by rw [sR_len h]; decide) ?_ ?_
  · intro av σ K kx hok hSp
    obtain ⟨q0, rfl, hp⟩ := sR_inv hSp
    obtain ⟨k0, e0, i0⟩ := q0
    obtain ⟨h0, hI, h2⟩ := hp
    all_goals (rcases h0 with h0 | h0 | h0)
    all_goals (dsimp only at h0; subst h0)
    all_goals (repeat' (first | (with_reducible assumption) | (with_reducible refine IV_upd ?_ ?_) | (with_reducible refine IV_cpy ?_ (fun _ _ _ _ => trivial)) | (refine And.intro ?_ ?_) | (intro _)))
    all_goals first | (first | rfl | decide | (simp only [nrm, strm, by8] at * <;> omega) | (simp [upd4, cpy4, nrm, strm, by8] at * <;> omega)) | (exact h2) | (refine h2 _ ?_ ?_ <;> (repeat' (first | assumption | exact trivial | exact Un_rf | exact hI 4 _ _ _ | exact hI 9 _ _ _ | exact hI 22 _ _ _ | (refine ixr_by8 ?_ ?_) | (refine IV_upd ?_ ?_) | (refine Un_upd rfl ?_) | (refine IV_cpy ?_ (fun _ _ _ _ => trivial)) | (refine Un_cpy rfl ?_) | (apply Un_tr; rotate_left; assumption; rfl) | (refine And.intro ?_ ?_))) <;> (first | rfl | decide | (simp only [nrm, strm, by8] at * <;> omega) | (simp [upd4, cpy4, nrm, strm, by8] at * <;> omega))) | (apply h2 <;> (repeat' (first | assumption | exact trivial | exact Un_rf | exact hI 4 _ _ _ | exact hI 9 _ _ _ | exact hI 22 _ _ _ | (refine ixr_by8 ?_ ?_) | (refine IV_upd ?_ ?_) | (refine Un_upd rfl ?_) | (refine IV_cpy ?_ (fun _ _ _ _ => trivial)) | (refine Un_cpy rfl ?_) | (apply Un_tr; rotate_left; assumption; rfl) | (refine And.intro ?_ ?_))) <;> (first | rfl | decide | (simp only [nrm, strm, by8] at * <;> omega) | (simp [upd4, cpy4, nrm, strm, by8] at * <;> omega))) | ((repeat' (first | assumption | exact trivial | exact Un_rf | exact hI 4 _ _ _ | exact hI 9 _ _ _ | exact hI 22 _ _ _ | (refine ixr_by8 ?_ ?_) | (refine IV_upd ?_ ?_) | (refine Un_upd rfl ?_) | (refine IV_cpy ?_ (fun _ _ _ _ => trivial)) | (refine Un_cpy rfl ?_) | (apply Un_tr; rotate_left; assumption; rfl) | (refine And.intro ?_ ?_))) <;> (first | rfl | decide | (simp only [nrm, strm, by8] at * <;> omega) | (simp [upd4, cpy4, nrm, strm, by8] at * <;> omega)))
  · intro av σ K kx n pc L st σ' nc ns _ _ h
    exact (h : False).elim
def gt_Fields_add (a : Nat) : Option Nat := match a with
  | _ => none
theorem go_Fields_add : ∀ a v, gt_Fields_add a = some v → StaOK R_Fields a v := by
  intro a v h
  unfold gt_Fields_add at h
  cases h
def pr_Fields_add : List Ent := [(0, 5, 0, 0, 0), (1, 39, 18, 0, 0), (4, 0, 0, 5, 0), (5, 35, 0, 0, 38), (8, 5, 0, 0, 0), (9, 39, 9, 0, 0), (12, 5, 0, 0, 0), (13, 39, 18, 0, 0), (16, 3, 1, 0, 0), (17, 42, 0, 0, 0), (18, 5, 0, 0, 0), (19, 39, 15, 0, 0), (22, 5, 0, 0, 0), (23, 39, 18, 0, 0), (26, 3, 2, 0, 0), (27, 42, 0, 0, 0), (28, 5, 0, 0, 0), (29, 23, 0, 0, 0), (30, 39, 18, 0, 0), (33, 0, 0, 1, 0), (34, 12, 0, 0, 0), (35, 40, 18, 0, 0), (38, 49, 0, 0, 0)]
def sw_Fields_add : List Swt := []
theorem dk_Fields_add : ∀ q ∈ pr_Fields_add, decode b_Fields_add q.1 = .ok (dec sw_Fields_add q) ∧ okE q = true := by decide +kernel
theorem nt_Fields_add : ∀ q ∈ pr_Fields_add, ¬ q.2.1 = 55 := by decide +kernel
def ct_Fields_add (a : Nat) : Option (Nat × Nat × CSp × Nat × Nat) := match a with
  | _ => none
theorem co_Fields_add : ∀ a v, ct_Fields_add a = some v → StcOK R_Fields 0 0 a v := by
  intro a v h
  unfold ct_Fields_add at h
  cases h
/-- Fields_add -/
def sp_Fields_add : CSp := sRII (fun q x0 x1 σ K _ => kF q.1 ∧ IV σ ∧ ∀ σ', IV σ' → Un [q.1, q.1 + 1, q.1 + 2] σ σ' → K none σ')
set_option maxHeartbeats 4000000 in
set_option maxRecDepth 100000 in
theorem c_Fields_add : Ctr y_Fields_add b_Fields_add 3 none 0 0 0 0 sp_Fields_add := by
  refine ctr_of (FT := ft_Fields) (GT := gt_Fields_add) (CT := ct_Fields_add) (sw := sw_Fields_add) (rt := 2) (pr := pr_Fields_add) (by decide) [] (fun _ _ _ _ _ _ _ _ _ _ _ => False) 40 ⟨fun h => absurd h (by decide), fun h => absurd h (by decide), fun _ => rfl, fun h => absurd h (by decide)⟩ dk_Fields_add fo_Fields go_Fields_add co_Fields_add (fun a k h hk => by unfold gt_Fields_add at h; cases h) (fun q hq h => absurd h (nt_Fields_add q hq)) (fun av σ K kx h => by rw [sRII_len h]; decide) ?_ ?_
  · intro av σ K kx hok hSp
    obtain ⟨q0, x0, x1, rfl, hp⟩ := sRII_inv hSp
    obtain ⟨k0, e0, i0⟩ := q0
    obtain ⟨h0, hI, h2⟩ := hp
    have i1 := IV_F hI h0 e0 i0
    all_goals (rcases h0 with h0 | h0 | h0)
    all_goals (dsimp only at h0; subst h0)
    all_goals (repeat' (first | (with_reducible assumption) | (with_reducible refine IV_upd ?_ ?_) | (with_reducible refine IV_cpy ?_ (fun _ _ _ _ => trivial)) | (refine And.intro ?_ ?_) | (intro _)))
    all_goals first | (first | rfl | decide | (simp only [nrm, strm, by8] at * <;> omega) | (simp [upd4, cpy4, nrm, strm, by8] at * <;> omega)) | (exact h2) | (refine h2 _ ?_ ?_ <;> (repeat' (first | assumption | exact trivial | exact Un_rf | exact hI 4 _ _ _ | exact hI 9 _ _ _ | exact hI 22 _ _ _ | (refine ixr_by8 ?_ ?_) | (refine IV_upd ?_ ?_) | (refine Un_upd rfl ?_) | (refine IV_cpy ?_ (fun _ _ _ _ => trivial)) | (refine Un_cpy rfl ?_) | (apply Un_tr; rotate_left; assumption; rfl) | (refine And.intro ?_ ?_))) <;> (first | rfl | decide | (simp only [nrm, strm, by8] at * <;> omega) | (simp [upd4, cpy4, nrm, strm, by8] at * <;> omega))) | (apply h2 <;> (repeat' (first | assumption | exact trivial | exact Un_rf | exact hI 4 _ _ _ | exact hI 9 _ _ _ | exact hI 22 _ _ _ | (refine ixr_by8 ?_ ?_) | (refine IV_upd ?_ ?_) | (refine Un_upd rfl ?_) | (refine IV_cpy ?_ (fun _ _ _ _ => trivial)) | (refine Un_cpy rfl ?_) | (apply Un_tr; rotate_left; assumption; rfl) | (refine And.intro ?_ ?_))) <;> (first | rfl | decide | (simp only [nrm, strm, by8] at * <;> omega) | (simp [upd4, cpy4, nrm, strm, by8] at * <;> omega))) | ((repeat' (first | assumption | exact trivial | exact Un_rf | exact hI 4 _ _ _ | exact hI 9 _ _ _ | exact hI 22 _ _ _ | (refine ixr_by8 ?_ ?_) | (refine IV_upd ?_ ?_) | (refine Un_upd rfl ?_) | (refine IV_cpy ?_ (fun _ _ _ _ => trivial)) | (refine Un_cpy rfl ?_) | (apply Un_tr; rotate_left; assumption; rfl) | (refine And.intro ?_ ?_))) <;> (first | rfl | decide | (simp only [nrm, strm, by8] at * <;> omega) | (simp [upd4, cpy4, nrm, strm, by8] at * <;> omega)))
  · intro av σ K kx n pc L st σ' nc ns _ _ h
    exact (h : False).elim
def gt_Fields_nameAt (a : Nat) : Option Nat := match a with
  | _ => none
theorem go_Fields_nameAt : ∀ a v, gt_Fields_nameAt a = some v → StaOK R_Fields a v := by
  intro a v h
  unfold gt_Fields_nameAt at h
  cases h
def pr_Fields_nameAt : List Ent := [(0, 3, 1, 0, 0), (1, 28, 0, 0, 21), (4, 3, 1, 0, 0), (5, 5, 0, 0, 0), (6, 39, 18, 0, 0), (9, 35, 0, 0, 21), (12, 5, 0, 0, 0), (13, 39, 9, 0, 0), (16, 3, 1, 0, 0), (17, 41, 0, 0, 0), (18, 38, 0, 0, 22), (21, 0, 0, 0, 0), (22, 48, 0, 0, 0)]
def sw_Fields_nameAt : List Swt := []
theorem dk_Fields_nameAt : ∀ q ∈ pr_Fields_nameAt, decode b_Fields_nameAt q.1 = .ok (dec sw_Fields_nameAt q) ∧ okE q = true := by decide +kernel
theorem nt_Fields_nameAt : ∀ q ∈ pr_Fields_nameAt, ¬ q.2.1 = 55 := by decide +kernel
def ct_Fields_nameAt (a : Nat) : Option (Nat × Nat × CSp × Nat × Nat) := match a with
  | _ => none
theorem co_Fields_nameAt : ∀ a v, ct_Fields_nameAt a = some v → StcOK R_Fields 0 0 a v := by
  intro a v h
  unfold ct_Fields_nameAt at h
  cases h
/-- Fields_nameAt -/
def sp_Fields_nameAt : CSp := sRI (fun q x σ K _ => kF q.1 ∧ IV σ ∧ ∀ r, K (some (.inl r)) σ)
set_option maxHeartbeats 4000000 in
set_option maxRecDepth 100000 in
theorem c_Fields_nameAt : Ctr y_Fields_nameAt b_Fields_nameAt 2 (some .int) 0 0 0 0 sp_Fields_nameAt := by
  refine ctr_of (FT := ft_Fields) (GT := gt_Fields_nameAt) (CT := ct_Fields_nameAt) (sw := sw_Fields_nameAt) (rt := 0) (pr := pr_Fields_nameAt) (by decide) [] (fun _ _ _ _ _ _ _ _ _ _ _ => False) 30 ⟨fun _ => rfl, fun h => absurd h (by decide), fun h => absurd h (by decide), fun h => absurd h (by decide)⟩ dk_Fields_nameAt fo_Fields go_Fields_nameAt co_Fields_nameAt (fun a k h hk => by unfold gt_Fields_nameAt at h; cases h) (fun q hq h => absurd h (nt_Fields_nameAt q hq)) (fun av σ K kx h => by rw [sRI_len h]; decide) ?_ ?_
  · intro av σ K kx hok hSp
    obtain ⟨q0, x0, rfl, hp⟩ := sRI_inv hSp
    obtain ⟨k0, e0, i0⟩ := q0
    obtain ⟨h0, hI, h2⟩ := hp
    have i1 := IV_F hI h0 e0 i0
    all_goals (rcases h0 with h0 | h0 | h0)
    all_goals (dsimp only at h0; subst h0)
    all_goals (repeat' (first | (with_reducible assumption) | (with_reducible refine IV_upd ?_ ?_) | (with_reducible refine IV_cpy ?_ (fun _ _ _ _ => trivial)) | (refine And.intro ?_ ?_) | (intro _)))
    all_goals first | (first | rfl | decide | (simp only [nrm, strm, by8] at * <;> omega) | (simp [upd4, cpy4, nrm, strm, by8] at * <;> omega)) | (exact h2) | (refine h2 _ ?_ ?_ <;> (repeat' (first | assumption | exact trivial | exact Un_rf | exact hI 4 _ _ _ | exact hI 9 _ _ _ | exact hI 22 _ _ _ | (refine ixr_by8 ?_ ?_) | (refine IV_upd ?_ ?_) | (refine Un_upd rfl ?_) | (refine IV_cpy ?_ (fun _ _ _ _ => trivial)) | (refine Un_cpy rfl ?_) | (apply Un_tr; rotate_left; assumption; rfl) | (refine And.intro ?_ ?_))) <;> (first | rfl | decide | (simp only [nrm, strm, by8] at * <;> omega) | (simp [upd4, cpy4, nrm, strm, by8] at * <;> omega))) | (apply h2 <;> (repeat' (first | assumption | exact trivial | exact Un_rf | exact hI 4 _ _ _ | exact hI 9 _ _ _ | exact hI 22 _ _ _ | (refine ixr_by8 ?_ ?_) | (refine IV_upd ?_ ?_) | (refine Un_upd rfl ?_) | (refine IV_cpy ?_ (fun _ _ _ _ => trivial)) | (refine Un_cpy rfl ?_) | (apply Un_tr; rotate_left; assumption; rfl) | (refine And.intro ?_ ?_))) <;> (first | rfl | decide | (simp only [nrm, strm, by8] at * <;> omega) | (simp [upd4, cpy4, nrm, strm, by8] at * <;> omega))) | ((repeat' (first | assumption | exact trivial | exact Un_rf | exact hI 4 _ _ _ | exact hI 9 _ _ _ | exact hI 22 _ _ _ | (refine ixr_by8 ?_ ?_) | (refine IV_upd ?_ ?_) | (refine Un_upd rfl ?_) | (refine IV_cpy ?_ (fun _ _ _ _ => trivial)) | (refine Un_cpy rfl ?_) | (apply Un_tr; rotate_left; assumption; rfl) | (refine And.intro ?_ ?_))) <;> (first | rfl | decide | (simp only [nrm, strm, by8] at * <;> omega) | (simp [upd4, cpy4, nrm, strm, by8] at * <;> omega)))
  · intro av σ K kx n pc L st σ' nc ns _ _ h
    exact (h : False).elim
def gt_Fields_valueAt (a : Nat) : Option Nat := match a with
  | _ => none
theorem go_Fields_valueAt : ∀ a v, gt_Fields_valueAt a = some v → StaOK R_Fields a v := by
  intro a v h
  unfold gt_Fields_valueAt at h
  cases h
def pr_Fields_valueAt : List Ent := [(0, 3, 1, 0, 0), (1, 28, 0, 0, 21), (4, 3, 1, 0, 0), (5, 5, 0, 0, 0), (6, 39, 18, 0, 0), (9, 35, 0, 0, 21), (12, 5, 0, 0, 0), (13, 39, 15, 0, 0), (16, 3, 1, 0, 0), (17, 41, 0, 0, 0), (18, 38, 0, 0, 22), (21, 0, 0, 0, 0), (22, 48, 0, 0, 0)]
def sw_Fields_valueAt : List Swt := []
theorem dk_Fields_valueAt : ∀ q ∈ pr_Fields_valueAt, decode b_Fields_valueAt q.1 = .ok (dec sw_Fields_valueAt q) ∧ okE q = true := by decide +kernel
theorem nt_Fields_valueAt : ∀ q ∈ pr_Fields_valueAt, ¬ q.2.1 = 55 := by decide +kernel
def ct_Fields_valueAt (a : Nat) : Option (Nat × Nat × CSp × Nat × Nat) := match a with
  | _ => none
theorem co_Fields_valueAt : ∀ a v, ct_Fields_valueAt a = some v → StcOK R_Fields 0 0 a v := by
  intro a v h
  unfold ct_Fields_valueAt at h
  cases h
/-- Fields_valueAt -/
def sp_Fields_valueAt : CSp := sRI (fun q x σ K _ => kF q.1 ∧ IV σ ∧ ∀ r, K (some (.inl r)) σ)
set_option maxHeartbeats 4000000 in
set_option maxRecDepth 100000 in
theorem c_Fields_valueAt : Ctr y_Fields_valueAt b_Fields_valueAt 2 (some .int) 0 0 0 0 sp_Fields_valueAt := by
  refine ctr_of (FT := ft_Fields) (GT := gt_Fields_valueAt) (CT := ct_Fields_valueAt) (sw := sw_Fields_valueAt) (rt := 0) (pr := pr_Fields_valueAt) (by decide) [] (fun _ _ _ _ _ _ _ _ _ _ _ => False) 30 ⟨fun _ => rfl, fun h => absurd h (by decide), fun h => absurd h (by decide), fun h => absurd h (by decide)⟩ dk_Fields_valueAt fo_Fields go_Fields_valueAt co_Fields_valueAt (fun a k h hk => by unfold gt_Fields_valueAt at h; cases h) (fun q hq h => absurd h (nt_Fields_valueAt q hq)) (fun av σ K kx h => by rw [sRI_len h]; decide) ?_ ?_
  · intro av σ K kx hok hSp
    obtain ⟨q0, x0, rfl, hp⟩ := sRI_inv hSp
    obtain ⟨k0, e0, i0⟩ := q0
    obtain ⟨h0, hI, h2⟩ := hp
    have i1 := IV_F hI h0 e0 i0
    all_goals (rcases h0 with h0 | h0 | h0)
    all_goals (dsimp only at h0; subst h0)
    all_goals (repeat' (first | (with_reducible assumption) | (with_reducible refine IV_upd ?_ ?_) | (with_reducible refine IV_cpy ?_ (fun _ _ _ _ => trivial)) | (refine And.intro ?_ ?_) | (intro _)))
    all_goals first | (first | rfl | decide | (simp only [nrm, strm, by8] at * <;> omega) | (simp [upd4, cpy4, nrm, strm, by8] at * <;> omega)) | (exact h2) | (refine h2 _ ?_ ?_ <;> (repeat' (first | assumption | exact trivial | exact Un_rf | exact hI 4 _ _ _ | exact hI 9 _ _ _ | exact hI 22 _ _ _ | (refine ixr_by8 ?_ ?_) | (refine IV_upd ?_ ?_) | (refine Un_upd rfl ?_) | (refine IV_cpy ?_ (fun _ _ _ _ => trivial)) | (refine Un_cpy rfl ?_) | (apply Un_tr; rotate_left; assumption; rfl) | (refine And.intro ?_ ?_))) <;> (first | rfl | decide | (simp only [nrm, strm, by8] at * <;> omega) | (simp [upd4, cpy4, nrm, strm, by8] at * <;> omega))) | (apply h2 <;> (repeat' (first | assumption | exact trivial | exact Un_rf | exact hI 4 _ _ _ | exact hI 9 _ _ _ | exact hI 22 _ _ _ | (refine ixr_by8 ?_ ?_) | (refine IV_upd ?_ ?_) | (refine Un_upd rfl ?_) | (refine IV_cpy ?_ (fun _ _ _ _ => trivial)) | (refine Un_cpy rfl ?_) | (apply Un_tr; rotate_left; assumption; rfl) | (refine And.intro ?_ ?_))) <;> (first | rfl | decide | (simp only [nrm, strm, by8] at * <;> omega) | (simp [upd4, cpy4, nrm, strm, by8] at * <;> omega))) | ((repeat' (first | assumption | exact trivial | exact Un_rf | exact hI 4 _ _ _ | exact hI 9 _ _ _ | exact hI 22 _ _ _ | (refine ixr_by8 ?_ ?_) | (refine IV_upd ?_ ?_) | (refine Un_upd rfl ?_) | (refine IV_cpy ?_ (fun _ _ _ _ => trivial)) | (refine Un_cpy rfl ?_) | (apply Un_tr; rotate_left; assumption; rfl) | (refine And.intro ?_ ?_))) <;> (first | rfl | decide | (simp only [nrm, strm, by8] at * <;> omega) | (simp [upd4, cpy4, nrm, strm, by8] at * <;> omega)))
  · intro av σ K kx n pc L st σ' nc ns _ _ h
    exact (h : False).elim
def gt_Fields_copyFrom (a : Nat) : Option Nat := match a with
  | 24 => some 303
  | _ => none
theorem go_Fields_copyFrom : ∀ a v, gt_Fields_copyFrom a = some v → StaOK R_Fields a v := by
  intro a v h
  unfold gt_Fields_copyFrom at h
  split at h
  · cases h; exact ⟨fun h => absurd h (by decide), fun h => absurd h (by decide), fun _ => by decide +kernel, fun h => absurd h (by decide)⟩
  · cases h
def pr_Fields_copyFrom : List Ent := [(0, 5, 0, 0, 0), (1, 5, 1, 0, 0), (2, 39, 18, 0, 0), (5, 40, 18, 0, 0), (8, 5, 1, 0, 0), (9, 39, 9, 0, 0), (12, 0, 0, 0, 0), (13, 5, 0, 0, 0), (14, 39, 9, 0, 0), (17, 0, 0, 0, 0), (18, 5, 0, 0, 0), (19, 39, 18, 0, 0), (22, 54, 24, 0, 0), (25, 5, 1, 0, 0), (26, 39, 15, 0, 0), (29, 0, 0, 0, 0), (30, 5, 0, 0, 0), (31, 39, 15, 0, 0), (34, 0, 0, 0, 0), (35, 5, 0, 0, 0), (36, 39, 18, 0, 0), (39, 54, 24, 0, 0), (42, 49, 0, 0, 0)]
def sw_Fields_copyFrom : List Swt := []
theorem dk_Fields_copyFrom : ∀ q ∈ pr_Fields_copyFrom, decode b_Fields_copyFrom q.1 = .ok (dec sw_Fields_copyFrom q) ∧ okE q = true := by decide +kernel
theorem nt_Fields_copyFrom : ∀ q ∈ pr_Fields_copyFrom, ¬ q.2.1 = 55 := by decide +kernel
def ct_Fields_copyFrom (a : Nat) : Option (Nat × Nat × CSp × Nat × Nat) := match a with
  | _ => none
theorem co_Fields_copyFrom : ∀ a v, ct_Fields_copyFrom a = some v → StcOK R_Fields 1 26 a v := by
  intro a v h
  unfold ct_Fields_copyFrom at h
  cases h
/-- Fields_copyFrom -/
def sp_Fields_copyFrom : CSp := sRR (fun q q1 σ K _ => kF q.1 ∧ kF q1.1 ∧ IV σ ∧ ∀ σ', IV σ' → Un [q.1, q.1 + 1, q.1 + 2] σ σ' → K none σ')
set_option maxHeartbeats 4000000 in
set_option maxRecDepth 100000 in
theorem c_Fields_copyFrom : Ctr y_Fields_copyFrom b_Fields_copyFrom 2 none 1 26 0 0 sp_Fields_copyFrom := by
  refine ctr_of (FT := ft_Fields) (GT := gt_Fields_copyFrom) (CT := ct_Fields_copyFrom) (sw := sw_Fields_copyFrom) (rt := 2) (pr := pr_Fields_copyFrom) (by decide) [] (fun _ _ _ _ _ _ _ _ _ _ _ => False) 40 ⟨fun h => absurd h (by decide), fun h => absurd h (by decide), fun _ => rfl, fun h => absurd h (by decide)⟩ dk_Fields_copyFrom fo_Fields go_Fields_copyFrom co_Fields_copyFrom (fun a k h hk => by unfold gt_Fields_copyFrom at h; split at h <;> first | exact ⟨by decide, by decide⟩ | (cases h; done) | (cases h; exact absurd hk (by decide))) (fun q hq h => absurd h (nt_Fields_copyFrom q hq)) (fun av σ K kx h => by rw [sRR_len h]; decide) ?_ ?_
  · intro av σ K kx hok hSp
    obtain ⟨q0, q1, rfl, hp⟩ := sRR_inv hSp
    obtain ⟨k0, e0, i0⟩ := q0
    obtain ⟨k1, e1, i1⟩ := q1
    obtain ⟨h0, h1, hI, h3⟩ := hp
    have j1 := IV_F hI h0 e0 i0
    have j2 := IV_F hI h1 e1 i1
    all_goals (rcases h0 with h0 | h0 | h0)
    all_goals (dsimp only at h0; subst h0)
    all_goals (rcases h1 with h1 | h1 | h1)
    all_goals (dsimp only at h1; subst h1)
    all_goals (repeat' (first | (with_reducible assumption) | (with_reducible refine IV_upd ?_ ?_) | (with_reducible refine IV_cpy ?_ (fun _ _ _ _ => trivial)) | (refine And.intro ?_ ?_) | (intro _)))
    all_goals first | (first | rfl | decide | (simp only [nrm, strm, by8] at * <;> omega) | (simp [upd4, cpy4, nrm, strm, by8] at * <;> omega)) | (exact h3) | (refine h3 _ ?_ ?_ <;> (repeat' (first | assumption | exact trivial | exact Un_rf | exact hI 4 _ _ _ | exact hI 9 _ _ _ | exact hI 22 _ _ _ | (refine ixr_by8 ?_ ?_) | (refine IV_upd ?_ ?_) | (refine Un_upd rfl ?_) | (refine IV_cpy ?_ (fun _ _ _ _ => trivial)) | (refine Un_cpy rfl ?_) | (apply Un_tr; rotate_left; assumption; rfl) | (refine And.intro ?_ ?_))) <;> (first | rfl | decide | (simp only [nrm, strm, by8] at * <;> omega) | (simp [upd4, cpy4, nrm, strm, by8] at * <;> omega))) | (apply h3 <;> (repeat' (first | assumption | exact trivial | exact Un_rf | exact hI 4 _ _ _ | exact hI 9 _ _ _ | exact hI 22 _ _ _ | (refine ixr_by8 ?_ ?_) | (refine IV_upd ?_ ?_) | (refine Un_upd rfl ?_) | (refine IV_cpy ?_ (fun _ _ _ _ => trivial)) | (refine Un_cpy rfl ?_) | (apply Un_tr; rotate_left; assumption; rfl) | (refine And.intro ?_ ?_))) <;> (first | rfl | decide | (simp only [nrm, strm, by8] at * <;> omega) | (simp [upd4, cpy4, nrm, strm, by8] at * <;> omega))) | ((repeat' (first | assumption | exact trivial | exact Un_rf | exact hI 4 _ _ _ | exact hI 9 _ _ _ | exact hI 22 _ _ _ | (refine ixr_by8 ?_ ?_) | (refine IV_upd ?_ ?_) | (refine Un_upd rfl ?_) | (refine IV_cpy ?_ (fun _ _ _ _ => trivial)) | (refine Un_cpy rfl ?_) | (apply Un_tr; rotate_left; assumption; rfl) | (refine And.intro ?_ ?_))) <;> (first | rfl | decide | (simp only [nrm, strm, by8] at * <;> omega) | (simp [upd4, cpy4, nrm, strm, by8] at * <;> omega)))
  · intro av σ K kx n pc L st σ' nc ns _ _ h
    exact (h : False).elim
end
section
def ft_Table (a : Nat) : Option (Nat × Nat × Nat) := match a with
  | 9 => some (7, 0, 2)
  | 13 => some (7, 1, 2)
  | 16 => some (7, 2, 2)
  | 19 => some (7, 3, 0)
  | 23 => some (7, 4, 0)
  | 26 => some (7, 5, 0)
  | _ => none
theorem fo_Table : ∀ a v, ft_Table a = some v → FldOK R_Table a v := by
  intro a v h
  unfold ft_Table at h
  split at h
  · cases h; exact fl_Table _ _ _ _ (by decide) (by decide +kernel) (by decide)
  · cases h; exact fl_Table _ _ _ _ (by decide) (by decide +kernel) (by decide)
  · cases h; exact fl_Table _ _ _ _ (by decide) (by decide +kernel) (by decide)
  · cases h; exact fl_Table _ _ _ _ (by decide) (by decide +kernel) (by decide)
  · cases h; exact fl_Table _ _ _ _ (by decide) (by decide +kernel) (by decide)
  · cases h; exact fl_Table _ _ _ _ (by decide) (by decide +kernel) (by decide)
  · cases h
def gt_Table_count (a : Nat) : Option Nat := match a with
  | _ => none
theorem go_Table_count : ∀ a v, gt_Table_count a = some v → StaOK R_Table a v := by
  intro a v h
  unfold gt_Table_count at h
  cases h
def pr_Table_count : List Ent := [(0, 5, 0, 0, 0), (1, 39, 19, 0, 0), (4, 48, 0, 0, 0)]
def sw_Table_count : List Swt := []
theorem dk_Table_count : ∀ q ∈ pr_Table_count, decode b_Table_count q.1 = .ok (dec sw_Table_count q) ∧ okE q = true := by decide +kernel
theorem nt_Table_count : ∀ q ∈ pr_Table_count, ¬ q.2.1 = 55 := by decide +kernel
def ct_Table_count (a : Nat) : Option (Nat × Nat × CSp × Nat × Nat) := match a with
  | _ => none
theorem co_Table_count : ∀ a v, ct_Table_count a = some v → StcOK R_Table 0 0 a v := by
  intro a v h
  unfold ct_Table_count at h
  cases h
/-- Table_count -/
def sp_Table_count : CSp := sR (fun q σ K _ => kT q.1 ∧ K (some (.inl (σ q.1 q.2.1 q.2.2 3))) σ)
set_option maxHeartbeats 4000000 in
set_option maxRecDepth 100000 in
theorem c_Table_count : Ctr y_Table_count b_Table_count 1 (some .int) 0 0 0 0 sp_Table_count := by
  refine ctr_of (FT := ft_Table) (GT := gt_Table_count) (CT := ct_Table_count) (sw := sw_Table_count) (rt := 0) (pr := pr_Table_count) (by decide) [] (fun _ _ _ _ _ _ _ _ _ _ _ => False) 20 ⟨fun _ => rfl, fun h => absurd h (by decide), fun h => absurd h (by decide), fun h => absurd h (by decide)⟩ dk_Table_count fo_Table go_Table_count co_Table_count (fun a k h hk => by unfold gt_Table_count at h; cases h) (fun q hq h => absurd h (nt_Table_count q hq)) (fun av σ K kx h => by rw [sR_len h]; decide) ?_ ?_
  · intro av σ K kx hok hSp
    obtain ⟨q0, rfl, hp⟩ := sR_inv hSp
    obtain ⟨k0, e0, i0⟩ := q0
    obtain ⟨h0, h1⟩ := hp
    all_goals (rcases h0 with h0 | h0 | h0)
    all_goals (dsimp only at h0; subst h0)
    all_goals (repeat' (first | (with_reducible assumption) | (with_reducible refine IV_upd ?_ ?_) | (with_reducible refine IV_cpy ?_ (fun _ _ _ _ => trivial)) | (refine And.intro ?_ ?_) | (intro _)))
    all_goals first | (first | rfl | decide | exact Or.inl rfl | exact Or.inr (Or.inl rfl) | exact Or.inr (Or.inr rfl) | (simp only [nrm, strm, by8] at * <;> omega) | (simp [upd4, cpy4, nrm, strm, by8] at * <;> omega)) | (exact h1 (by first | assumption | (first | rfl | decide | exact Or.inl rfl | exact Or.inr (Or.inl rfl) | exact Or.inr (Or.inr rfl) | (simp only [nrm, strm, by8] at * <;> omega) | (simp [upd4, cpy4, nrm, strm, by8] at * <;> omega)))) | (exact h1) | (refine h1 _ ?_ ?_ <;> (repeat' (first | assumption | exact trivial | exact Un_rf | exact hI 4 _ _ _ | exact hI 9 _ _ _ | exact hI 22 _ _ _ | (refine ixr_by8 ?_ ?_) | (refine IV_upd ?_ ?_) | (refine Un_upd rfl ?_) | (refine IV_cpy ?_ (fun _ _ _ _ => trivial)) | (refine Un_cpy rfl ?_) | (apply Un_tr; rotate_left; assumption; rfl) | (refine And.intro ?_ ?_))) <;> (first | rfl | decide | exact Or.inl rfl | exact Or.inr (Or.inl rfl) | exact Or.inr (Or.inr rfl) | (simp only [nrm, strm, by8] at * <;> omega) | (simp [upd4, cpy4, nrm, strm, by8] at * <;> omega))) | (apply h1 <;> (repeat' (first | assumption | exact trivial | exact Un_rf | exact hI 4 _ _ _ | exact hI 9 _ _ _ | exact hI 22 _ _ _ | (refine ixr_by8 ?_ ?_) | (refine IV_upd ?_ ?_) | (refine Un_upd rfl ?_) | (refine IV_cpy ?_ (fun _ _ _ _ => trivial)) | (refine Un_cpy rfl ?_) | (apply Un_tr; rotate_left; assumption; rfl) | (refine And.intro ?_ ?_))) <;> (first | rfl | decide | exact Or.inl rfl | exact Or.inr (Or.inl rfl) | exact Or.inr (Or.inr rfl) | (simp only [nrm, strm, by8] at * <;> omega) | (simp [upd4, cpy4, nrm, strm, by8] at * <;> omega))) | ((repeat' (first | assumption | exact trivial | exact Un_rf | exact hI 4 _ _ _ | exact hI 9 _ _ _ | exact hI 22 _ _ _ | (refine ixr_by8 ?_ ?_) | (refine IV_upd ?_ ?_) | (refine Un_upd rfl ?_) | (refine IV_cpy ?_ (fun _ _ _ _ => trivial)) | (refine Un_cpy rfl ?_) | (apply Un_tr; rotate_left; assumption; rfl) | (refine And.intro ?_ ?_))) <;> (first | rfl | decide | exact Or.inl rfl | exact Or.inr (Or.inl rfl) | exact Or.inr (Or.inr rfl) | (simp only [nrm, strm, by8] at * <;> omega) | (simp [upd4, cpy4, nrm, strm, by8] at * <;> omega)))
  · intro av σ K kx n pc L st σ' nc ns _ _ h
    exact (h : False).elim
def gt_Table_limit (a : Nat) : Option Nat := match a with
  | _ => none
theorem go_Table_limit : ∀ a v, gt_Table_limit a = some v → StaOK R_Table a v := by
  intro a v h
  unfold gt_Table_limit at h
  cases h
def pr_Table_limit : List Ent := [(0, 5, 0, 0, 0), (1, 39, 26, 0, 0), (4, 48, 0, 0, 0)]
def sw_Table_limit : List Swt := []
theorem dk_Table_limit : ∀ q ∈ pr_Table_limit, decode b_Table_limit q.1 = .ok (dec sw_Table_limit q) ∧ okE q = true := by decide +kernel
theorem nt_Table_limit : ∀ q ∈ pr_Table_limit, ¬ q.2.1 = 55 := by decide +kernel
def ct_Table_limit (a : Nat) : Option (Nat × Nat × CSp × Nat × Nat) := match a with
  | _ => none
theorem co_Table_limit : ∀ a v, ct_Table_limit a = some v → StcOK R_Table 0 0 a v := by
  intro a v h
  unfold ct_Table_limit at h
  cases h
/-- Table_limit -/
def sp_Table_limit : CSp := sR (fun q σ K _ => kT q.1 ∧ K (some (.inl (σ q.1 q.2.1 q.2.2 5))) σ)
set_option maxHeartbeats 4000000 in
set_option maxRecDepth 100000 in
theorem c_Table_limit : Ctr y_Table_limit b_Table_limit 1 (some .int) 0 0 0 0 sp_Table_limit := by
  refine ctr_of (FT := ft_Table) (GT := gt_Table_limit) (CT := ct_Table_limit) (sw := sw_Table_limit) (rt := 0) (pr := pr_Table_limit) (by decide) [] (fun _ _ _ _ _ _ _ _ _ _ _ => False) 20 ⟨fun _ => rfl, fun h => absurd h (by decide), fun h => absurd h (by decide), fun h => absurd h (by decide)⟩ dk_Table_limit fo_Table go_Table_limit co_Table_limit (fun a k h hk => by unfold gt_Table_limit at h; cases h) (fun q hq h => absurd h (nt_Table_limit q hq)) (fun av σ K kx h => by rw [sR_len h]; decide) ?_ ?_
  · intro av σ K kx hok hSp
    obtain ⟨q0, rfl, hp⟩ := sR_inv hSp
    obtain ⟨k0, e0, i0⟩ := q0
    obtain ⟨h0, h1⟩ := hp
    all_goals (rcases h0 with h0 | h0 | h0)
    all_goals (dsimp only at h0; subst h0)
    all_goals (repeat' (first | (with_reducible assumption) | (with_reducible refine IV_upd ?_ ?_) | (with_reducible refine IV_cpy ?_ (fun _ _ _ _ => trivial)) | (refine And.intro ?_ ?_) | (intro _)))
    all_goals first | (first | rfl | decide | exact Or.inl rfl | exact Or.inr (Or.inl rfl) | exact Or.inr (Or.inr rfl) | (simp only [nrm, strm, by8] at * <;> omega) | (simp [upd4, cpy4, nrm, strm, by8] at * <;> omega)) | (exact h1 (by first | assumption | (first | rfl | decide | exact Or.inl rfl | exact Or.inr (Or.inl rfl) | exact Or.inr (Or.inr rfl) | (simp only [nrm, strm, by8] at * <;> omega) | (simp [upd4, cpy4, nrm, strm, by8] at * <;> omega)))) | (exact h1) | (refine h1 _ ?_ ?_ <;> (repeat' (first | assumption | exact trivial | exact Un_rf | exact hI 4 _ _ _ | exact hI 9 _ _ _ | exact hI 22 _ _ _ | (refine ixr_by8 ?_ ?_) | (refine IV_upd ?_ ?_) | (refine Un_upd rfl ?_) | (refine IV_cpy ?_ (fun _ _ _ _ => trivial)) | (refine Un_cpy rfl ?_) | (apply Un_tr; rotate_left; assumption; rfl) | (refine And.intro ?_ ?_))) <;> (first | rfl | decide | exact Or.inl rfl | exact Or.inr (Or.inl rfl) | exact Or.inr (Or.inr rfl) | (simp only [nrm, strm, by8] at * <;> omega) | (simp [upd4, cpy4, nrm, strm, by8] at * <;> omega))) | (apply h1 <;> (repeat' (first | assumption | exact trivial | exact Un_rf | exact hI 4 _ _ _ | exact hI 9 _ _ _ | exact hI 22 _ _ _ | (refine ixr_by8 ?_ ?_) | (refine IV_upd ?_ ?_) | (refine Un_upd rfl ?_) | (refine IV_cpy ?_ (fun _ _ _ _ => trivial)) | (refine Un_cpy rfl ?_) | (apply Un_tr; rotate_left; assumption; rfl) | (refine And.intro ?_ ?_))) <;> (first | rfl | decide | exact Or.inl rfl | exact Or.inr (Or.inl rfl) | exact Or.inr (Or.inr rfl) | (simp only [nrm, strm, by8] at * <;> omega) | (simp [upd4, cpy4, nrm, strm, by8] at * <;> omega))) | ((repeat' (first | assumption | exact trivial | exact Un_rf | exact hI 4 _ _ _ | exact hI 9 _ _ _ | exact hI 22 _ _ _ | (refine ixr_by8 ?_ ?_) | (refine IV_upd ?_ ?_) | (refine Un_upd rfl ?_) | (refine IV_cpy ?_ (fun _ _ _ _ => trivial)) | (refine Un_cpy rfl ?_) | (apply Un_tr; rotate_left; assumption; rfl) | (refine And.intro ?_ ?_))) <;> (first | rfl | decide | exact Or.inl rfl | exact Or.inr (Or.inl rfl) | exact Or.inr (Or.inr rfl) | (simp only [nrm, strm, by8] at * <;> omega) | (simp [upd4, cpy4, nrm, strm, by8] at * <;> omega)))
  · intro av σ K kx n pc L st σ' nc ns _ _ h
    exact (h : False).elim
def gt_Table_takeOffDownTo (a : Nat) : Option Nat := match a with
  | 39 => some 303
  | _ => none
theorem go_Table_takeOffDownTo : ∀ a v, gt_Table_takeOffDownTo a = some v → StaOK R_Table a v := by
  intro a v h
  unfold gt_Table_takeOffDownTo at h
  split at h
  · cases h; exact ⟨fun h => absurd h (by decide), fun h => absurd h (by decide), fun _ => by decide +kernel, fun h => absurd h (by decide)⟩
  · cases h
def pr_Table_takeOffDownTo : List Ent := [(0, 0, 0, 0, 0), (1, 7, 2, 0, 0), (2, 3, 2, 0, 0), (3, 5, 0, 0, 0), (4, 39, 19, 0, 0), (7, 35, 0, 0, 39), (10, 5, 0, 0, 0), (11, 39, 23, 0, 0), (14, 3, 1, 0, 0), (15, 37, 0, 0, 39), (18, 5, 0, 0, 0), (19, 23, 0, 0, 0), (20, 39, 23, 0, 0), (23, 5, 0, 0, 0), (24, 39, 16, 0, 0), (27, 3, 2, 0, 0), (28, 41, 0, 0, 0), (29, 13, 0, 0, 0), (30, 40, 23, 0, 0), (33, 11, 2, 1, 0), (36, 38, 0, 0, 2), (39, 5, 0, 0, 0), (40, 23, 0, 0, 0), (41, 39, 19, 0, 0), (44, 3, 2, 0, 0), (45, 13, 0, 0, 0), (46, 40, 19, 0, 0), (49, 5, 0, 0, 0), (50, 39, 9, 0, 0), (53, 3, 2, 0, 0), (54, 5, 0, 0, 0), (55, 39, 9, 0, 0), (58, 0, 0, 0, 0), (59, 5, 0, 0, 0), (60, 39, 19, 0, 0), (63, 54, 39, 0, 0), (66, 5, 0, 0, 0), (67, 39, 13, 0, 0), (70, 3, 2, 0, 0), (71, 5, 0, 0, 0), (72, 39, 13, 0, 0), (75, 0, 0, 0, 0), (76, 5, 0, 0, 0), (77, 39, 19, 0, 0), (80, 54, 39, 0, 0), (83, 5, 0, 0, 0), (84, 39, 16, 0, 0), (87, 3, 2, 0, 0), (88, 5, 0, 0, 0), (89, 39, 16, 0, 0), (92, 0, 0, 0, 0), (93, 5, 0, 0, 0), (94, 39, 19, 0, 0), (97, 54, 39, 0, 0), (100, 49, 0, 0, 0)]
def sw_Table_takeOffDownTo : List Swt := []
theorem dk_Table_takeOffDownTo : ∀ q ∈ pr_Table_takeOffDownTo, decode b_Table_takeOffDownTo q.1 = .ok (dec sw_Table_takeOffDownTo q) ∧ okE q = true := by decide +kernel
theorem nt_Table_takeOffDownTo : ∀ q ∈ pr_Table_takeOffDownTo, ¬ q.2.1 = 55 := by decide +kernel
def ct_Table_takeOffDownTo (a : Nat) : Option (Nat × Nat × CSp × Nat × Nat) := match a with
  | _ => none
theorem co_Table_takeOffDownTo : ∀ a v, ct_Table_takeOffDownTo a = some v → StcOK R_Table 1 26 a v := by
  intro a v h
  unfold ct_Table_takeOffDownTo at h
  cases h
/-- Table_takeOffDownTo -/
def sp_Table_takeOffDownTo : CSp := sRI (fun q x σ K _ => kT q.1 ∧ IV σ ∧ ∀ σ', IV σ' → Un [q.1, q.1 + 1, q.1 + 2, q.1 + 3] σ σ' → (0 ≤ σ' q.1 q.2.1 q.2.2 3 ∧ σ' q.1 q.2.1 q.2.2 3 ≤ 8) → K none σ')
set_option maxHeartbeats 4000000 in
set_option maxRecDepth 100000 in
theorem c_Table_takeOffDownTo : Ctr y_Table_takeOffDownTo b_Table_takeOffDownTo 3 none 1 26 0 0 sp_Table_takeOffDownTo := by
  refine ctr_of (FT := ft_Table) (GT := gt_Table_takeOffDownTo) (CT := ct_Table_takeOffDownTo) (sw := sw_Table_takeOffDownTo) (rt := 2) (pr := pr_Table_takeOffDownTo) (by decide) [2] (fun av σ _ _ n pc L st σ' nc ns => ∃ k e i x f, av = [.inr (k, e, i), .inl x] ∧ pc = 2 ∧ L = [some (.inr (k, e, i)), some (.inl x), some (.inl f)] ∧ st = [] ∧ nc = 0 ∧ ns = 0 ∧ 0 ≤ f ∧ f ≤ σ' k e i 3 ∧ n = (8 - f).toNat ∧ IV σ' ∧ Un [k, k + 1, k + 2, k + 3] σ σ') 70 ⟨fun h => absurd h (by decide), fun h => absurd h (by decide), fun _ => rfl, fun h => absurd h (by decide)⟩ dk_Table_takeOffDownTo fo_Table go_Table_takeOffDownTo co_Table_takeOffDownTo (fun a k h hk => by unfold gt_Table_takeOffDownTo at h; split at h <;> first | exact ⟨by decide, by decide⟩ | (cases h; done) | (cases h; exact absurd hk (by decide))) (fun q hq h => absurd h (nt_Table_takeOffDownTo q hq)) (fun av σ K kx h => by rw [sRI_len h]; decide) ?_ ?_
  · intro av σ K kx hok hSp
    obtain ⟨q0, x0, rfl, hp⟩ := sRI_inv hSp
    obtain ⟨k0, e0, i0⟩ := q0
    obtain ⟨h0, hI, h2⟩ := hp
    have i1 := IV_T hI h0 e0 i0
    rcases h0 with h0 | h0 | h0
    all_goals (dsimp only at h0; subst h0)
    all_goals exact ⟨8, _, e0, i0, x0, 0, rfl, rfl, rfl, rfl, rfl, rfl, by omega, i1.1, rfl, hI, Un_rf⟩
  · intro av σ K kx n pc L st σ' nc ns hok hSp hJ
    obtain ⟨k, e, i, x, f, rfl, rfl, rfl, rfl, rfl, rfl, h0, h6, hn, hI, hU⟩ := hJ
    obtain ⟨hk, -, hf⟩ : kT k ∧ IV σ ∧ ∀ σ', IV σ' → Un [k, k + 1, k + 2, k + 3] σ σ' → (0 ≤ σ' k e i 3 ∧ σ' k e i 3 ≤ 8) → K none σ' := hSp
    have i1 := IV_T hI hk e i
    rcases hk with hk | hk | hk
    all_goals subst hk
    all_goals (repeat' (first | (with_reducible assumption) | (refine And.intro ?_ ?_) | (intro _)))
    all_goals first | (first | rfl | decide | exact Or.inl rfl | exact Or.inr (Or.inl rfl) | exact Or.inr (Or.inr rfl) | (simp only [nrm] at * <;> omega) | (simp [upd4, cpy4, nrm] at * <;> omega)) | (apply hf <;> (repeat' (first | assumption | exact trivial | (refine IV_upd ?_ ?_) | (refine Un_upd rfl ?_) | (refine IV_cpy ?_ (fun _ _ _ _ => trivial)) | (refine Un_cpy rfl ?_) | (refine And.intro ?_ ?_))) <;> (first | rfl | decide | exact Or.inl rfl | exact Or.inr (Or.inl rfl) | exact Or.inr (Or.inr rfl) | (simp only [nrm] at * <;> omega) | (simp [upd4, cpy4, nrm] at * <;> omega))) | (refine ⟨(8 - (f + 1)).toNat, ?_, _, e, i, x, f + 1, rfl, rfl, rfl, rfl, rfl, rfl, ?_, ?_, rfl, IV_upd hI trivial, Un_upd rfl hU⟩ <;> (first | (simp only [nrm] at * <;> omega) | (simp [upd4, nrm] at * <;> omega)))
def gt_Table_changeLimit (a : Nat) : Option Nat := match a with
  | _ => none
theorem go_Table_changeLimit : ∀ a v, gt_Table_changeLimit a = some v → StaOK R_Table a v := by
  intro a v h
  unfold gt_Table_changeLimit at h
  cases h
def pr_Table_changeLimit : List Ent := [(0, 5, 0, 0, 0), (1, 3, 1, 0, 0), (2, 40, 26, 0, 0), (5, 5, 0, 0, 0), (6, 5, 0, 0, 0), (7, 39, 26, 0, 0), (10, 46, 29, 0, 0), (13, 49, 0, 0, 0)]
def sw_Table_changeLimit : List Swt := []
theorem dk_Table_changeLimit : ∀ q ∈ pr_Table_changeLimit, decode b_Table_changeLimit q.1 = .ok (dec sw_Table_changeLimit q) ∧ okE q = true := by decide +kernel
theorem nt_Table_changeLimit : ∀ q ∈ pr_Table_changeLimit, ¬ q.2.1 = 55 := by decide +kernel
def ct_Table_changeLimit (a : Nat) : Option (Nat × Nat × CSp × Nat × Nat) := match a with
  | 29 => some (2, 7, sp_Table_takeOffDownTo, 0, 0)
  | _ => none
theorem co_Table_changeLimit : ∀ a v, ct_Table_changeLimit a = some v → StcOK R_Table 2 48 a v := by
  intro a v h
  unfold ct_Table_changeLimit at h
  split at h
  · cases h; exact ⟨y_Table_takeOffDownTo, b_Table_takeOffDownTo, 3, none, 1, 26, 1, c_Table_takeOffDownTo, by decide, by decide +kernel, by decide +kernel, by decide +kernel, Or.inl ⟨rfl, by decide, by decide +kernel, by decide +kernel, _, _, rfl, by decide +kernel⟩⟩
  · cases h
/-- Table_changeLimit -/
def sp_Table_changeLimit : CSp := sRI (fun q x σ K _ => kT q.1 ∧ IV σ ∧ ∀ σ', IV σ' → Un [q.1, q.1 + 1, q.1 + 2, q.1 + 3] σ σ' → K none σ')
set_option maxHeartbeats 4000000 in
set_option maxRecDepth 100000 in
theorem c_Table_changeLimit : Ctr y_Table_changeLimit b_Table_changeLimit 2 none 2 48 0 0 sp_Table_changeLimit := by
  refine ctr_of (FT := ft_Table) (GT := gt_Table_changeLimit) (CT := ct_Table_changeLimit) (sw := sw_Table_changeLimit) (rt := 2) (pr := pr_Table_changeLimit) (by decide) [] (fun _ _ _ _ _ _ _ _ _ _ _ => False) 20 ⟨fun h => absurd h (by decide), fun h => absurd h (by decide), fun _ => rfl, fun h => absurd h (by decide)⟩ dk_Table_changeLimit fo_Table go_Table_changeLimit co_Table_changeLimit (fun a k h hk => by unfold gt_Table_changeLimit at h; cases h) (fun q hq h => absurd h (nt_Table_changeLimit q hq)) (fun av σ K kx h => by rw [sRI_len h]; decide) ?_ ?_
  · intro av σ K kx hok hSp
    obtain ⟨q0, x0, rfl, hp⟩ := sRI_inv hSp
    obtain ⟨k0, e0, i0⟩ := q0
    obtain ⟨h0, hI, h2⟩ := hp
    all_goals (rcases h0 with h0 | h0 | h0)
    all_goals (dsimp only at h0; subst h0)
    all_goals (repeat' (first | (with_reducible assumption) | (with_reducible refine IV_upd ?_ ?_) | (with_reducible refine IV_cpy ?_ (fun _ _ _ _ => trivial)) | (refine And.intro ?_ ?_) | (intro _)))
    all_goals first | (first | rfl | decide | exact Or.inl rfl | exact Or.inr (Or.inl rfl) | exact Or.inr (Or.inr rfl) | (simp only [nrm, strm, by8] at * <;> omega) | (simp [upd4, cpy4, nrm, strm, by8] at * <;> omega)) | (exact h2) | (refine h2 _ ?_ ?_ <;> (repeat' (first | assumption | exact trivial | exact Un_rf | exact hI 4 _ _ _ | exact hI 9 _ _ _ | exact hI 22 _ _ _ | (refine ixr_by8 ?_ ?_) | (refine IV_upd ?_ ?_) | (refine Un_upd rfl ?_) | (refine IV_cpy ?_ (fun _ _ _ _ => trivial)) | (refine Un_cpy rfl ?_) | (apply Un_tr; rotate_left; assumption; rfl) | (refine And.intro ?_ ?_))) <;> (first | rfl | decide | exact Or.inl rfl | exact Or.inr (Or.inl rfl) | exact Or.inr (Or.inr rfl) | (simp only [nrm, strm, by8] at * <;> omega) | (simp [upd4, cpy4, nrm, strm, by8] at * <;> omega))) | (apply h2 <;> (repeat' (first | assumption | exact trivial | exact Un_rf | exact hI 4 _ _ _ | exact hI 9 _ _ _ | exact hI 22 _ _ _ | (refine ixr_by8 ?_ ?_) | (refine IV_upd ?_ ?_) | (refine Un_upd rfl ?_) | (refine IV_cpy ?_ (fun _ _ _ _ => trivial)) | (refine Un_cpy rfl ?_) | (apply Un_tr; rotate_left; assumption; rfl) | (refine And.intro ?_ ?_))) <;> (first | rfl | decide | exact Or.inl rfl | exact Or.inr (Or.inl rfl) | exact Or.inr (Or.inr rfl) | (simp only [nrm, strm, by8] at * <;> omega) | (simp [upd4, cpy4, nrm, strm, by8] at * <;> omega))) | ((repeat' (first | assumption | exact trivial | exact Un_rf | exact hI 4 _ _ _ | exact hI 9 _ _ _ | exact hI 22 _ _ _ | (refine ixr_by8 ?_ ?_) | (refine IV_upd ?_ ?_) | (refine Un_upd rfl ?_) | (refine IV_cpy ?_ (fun _ _ _ _ => trivial)) | (refine Un_cpy rfl ?_) | (apply Un_tr; rotate_left; assumption; rfl) | (refine And.intro ?_ ?_))) <;> (first | rfl | decide | exact Or.inl rfl | exact Or.inr (Or.inl rfl) | exact Or.inr (Or.inr rfl) | (simp only [nrm, strm, by8] at * <;> omega) | (simp [upd4, cpy4, nrm, strm, by8] at * <;> omega)))
  · intro av σ K kx n pc L st σ' nc ns _ _ h
    exact (h : False).elim
def gt_Table_add (a : Nat) : Option Nat := match a with
  | _ => none
theorem go_Table_add : ∀ a v, gt_Table_add a = some v → StaOK R_Table a v := by
  intro a v h
  unfold gt_Table_add at h
  cases h
def pr_Table_add : List Ent := [(0, 1, 0, 6, 0), (2, 3, 1, 0, 0), (3, 47, 33, 0, 0), (6, 12, 0, 0, 0), (7, 3, 2, 0, 0), (8, 47, 33, 0, 0), (11, 12, 0, 0, 0), (12, 7, 3, 0, 0), (13, 5, 0, 0, 0), (14, 5, 0, 0, 0), (15, 39, 26, 0, 0), (18, 3, 3, 0, 0), (19, 13, 0, 0, 0), (20, 46, 29, 0, 0), (23, 3, 3, 0, 0), (24, 5, 0, 0, 0), (25, 39, 26, 0, 0), (28, 36, 0, 0, 90), (31, 5, 0, 0, 0), (32, 39, 19, 0, 0), (35, 1, 0, 8, 0), (37, 35, 0, 0, 90), (40, 5, 0, 0, 0), (41, 39, 9, 0, 0), (44, 5, 0, 0, 0), (45, 39, 19, 0, 0), (48, 3, 1, 0, 0), (49, 42, 0, 0, 0), (50, 5, 0, 0, 0), (51, 39, 13, 0, 0), (54, 5, 0, 0, 0), (55, 39, 19, 0, 0), (58, 3, 2, 0, 0), (59, 42, 0, 0, 0), (60, 5, 0, 0, 0), (61, 39, 16, 0, 0), (64, 5, 0, 0, 0), (65, 39, 19, 0, 0), (68, 3, 3, 0, 0), (69, 42, 0, 0, 0), (70, 5, 0, 0, 0), (71, 23, 0, 0, 0), (72, 39, 19, 0, 0), (75, 0, 0, 1, 0), (76, 12, 0, 0, 0), (77, 40, 19, 0, 0), (80, 5, 0, 0, 0), (81, 23, 0, 0, 0), (82, 39, 23, 0, 0), (85, 3, 3, 0, 0), (86, 12, 0, 0, 0), (87, 40, 23, 0, 0), (90, 49, 0, 0, 0)]
def sw_Table_add : List Swt := []
theorem dk_Table_add : ∀ q ∈ pr_Table_add, decode b_Table_add q.1 = .ok (dec sw_Table_add q) ∧ okE q = true := by decide +kernel
theorem nt_Table_add : ∀ q ∈ pr_Table_add, ¬ q.2.1 = 55 := by decide +kernel
def ct_Table_add (a : Nat) : Option (Nat × Nat × CSp × Nat × Nat) := match a with
  | 29 => some (2, 7, sp_Table_takeOffDownTo, 0, 0)
  | 33 => some (1, 1000, sp_Letters_length, 0, 0)
  | _ => none
theorem co_Table_add : ∀ a v, ct_Table_add a = some v → StcOK R_Table 2 48 a v := by
  intro a v h
  unfold ct_Table_add at h
  split at h
  · cases h; exact ⟨y_Table_takeOffDownTo, b_Table_takeOffDownTo, 3, none, 1, 26, 1, c_Table_takeOffDownTo, by decide, by decide +kernel, by decide +kernel, by decide +kernel, Or.inl ⟨rfl, by decide, by decide +kernel, by decide +kernel, _, _, rfl, by decide +kernel⟩⟩
  · cases h; exact ⟨y_Letters_length, b_Letters_length, 2, (some .int), 0, 0, 1, c_Letters_length, by decide, by decide +kernel, by decide +kernel, by decide +kernel, (by first | exact Or.inr (Or.inl ⟨rfl, rfl, by decide +kernel, by decide +kernel⟩) | exact Or.inr (Or.inr ⟨rfl, rfl, ⟨"FrameStreams", by decide +kernel⟩, by decide +kernel⟩))⟩
  · cases h
/-- Table_add -/
def sp_Table_add : CSp := sRII (fun q x0 x1 σ K _ => kT q.1 ∧ IV σ ∧ ∀ σ', IV σ' → Un [q.1, q.1 + 1, q.1 + 2, q.1 + 3] σ σ' → K none σ')
set_option maxHeartbeats 4000000 in
set_option maxRecDepth 100000 in
theorem c_Table_add : Ctr y_Table_add b_Table_add 4 none 2 48 0 0 sp_Table_add := by
  refine ctr_of (FT := ft_Table) (GT := gt_Table_add) (CT := ct_Table_add) (sw := sw_Table_add) (rt := 2) (pr := pr_Table_add) (by decide) [] (fun _ _ _ _ _ _ _ _ _ _ _ => False) 70 ⟨fun h => absurd h (by decide), fun h => absurd h (by decide), fun _ => rfl, fun h => absurd h (by decide)⟩ dk_Table_add fo_Table go_Table_add co_Table_add (fun a k h hk => by unfold gt_Table_add at h; cases h) (fun q hq h => absurd h (nt_Table_add q hq)) (fun av σ K kx h => by rw [sRII_len h]; decide) ?_ ?_
  · intro av σ K kx hok hSp
    obtain ⟨q0, x0, x1, rfl, hp⟩ := sRII_inv hSp
    obtain ⟨k0, e0, i0⟩ := q0
    obtain ⟨h0, hI, h2⟩ := hp
    have i1 := IV_T hI h0 e0 i0
    all_goals (rcases h0 with h0 | h0 | h0)
    all_goals (dsimp only at h0; subst h0)
    all_goals (repeat' (first | (with_reducible assumption) | (with_reducible refine IV_upd ?_ ?_) | (with_reducible refine IV_cpy ?_ (fun _ _ _ _ => trivial)) | (refine And.intro ?_ ?_) | (intro _)))
    all_goals first | (first | rfl | decide | exact Or.inl rfl | exact Or.inr (Or.inl rfl) | exact Or.inr (Or.inr rfl) | (simp only [nrm, strm, by8] at * <;> omega) | (simp [upd4, cpy4, nrm, strm, by8] at * <;> omega)) | (exact h2) | (refine h2 _ ?_ ?_ <;> (repeat' (first | assumption | exact trivial | exact Un_rf | exact hI 4 _ _ _ | exact hI 9 _ _ _ | exact hI 22 _ _ _ | (refine ixr_by8 ?_ ?_) | (refine IV_upd ?_ ?_) | (refine Un_upd rfl ?_) | (refine IV_cpy ?_ (fun _ _ _ _ => trivial)) | (refine Un_cpy rfl ?_) | (apply Un_tr; rotate_left; assumption; rfl) | (refine And.intro ?_ ?_))) <;> (first | rfl | decide | exact Or.inl rfl | exact Or.inr (Or.inl rfl) | exact Or.inr (Or.inr rfl) | (simp only [nrm, strm, by8] at * <;> omega) | (simp [upd4, cpy4, nrm, strm, by8] at * <;> omega))) | (apply h2 <;> (repeat' (first | assumption | exact trivial | exact Un_rf | exact hI 4 _ _ _ | exact hI 9 _ _ _ | exact hI 22 _ _ _ | (refine ixr_by8 ?_ ?_) | (refine IV_upd ?_ ?_) | (refine Un_upd rfl ?_) | (refine IV_cpy ?_ (fun _ _ _ _ => trivial)) | (refine Un_cpy rfl ?_) | (apply Un_tr; rotate_left; assumption; rfl) | (refine And.intro ?_ ?_))) <;> (first | rfl | decide | exact Or.inl rfl | exact Or.inr (Or.inl rfl) | exact Or.inr (Or.inr rfl) | (simp only [nrm, strm, by8] at * <;> omega) | (simp [upd4, cpy4, nrm, strm, by8] at * <;> omega))) | ((repeat' (first | assumption | exact trivial | exact Un_rf | exact hI 4 _ _ _ | exact hI 9 _ _ _ | exact hI 22 _ _ _ | (refine ixr_by8 ?_ ?_) | (refine IV_upd ?_ ?_) | (refine Un_upd rfl ?_) | (refine IV_cpy ?_ (fun _ _ _ _ => trivial)) | (refine Un_cpy rfl ?_) | (apply Un_tr; rotate_left; assumption; rfl) | (refine And.intro ?_ ?_))) <;> (first | rfl | decide | exact Or.inl rfl | exact Or.inr (Or.inl rfl) | exact Or.inr (Or.inr rfl) | (simp only [nrm, strm, by8] at * <;> omega) | (simp [upd4, cpy4, nrm, strm, by8] at * <;> omega)))
  · intro av σ K kx n pc L st σ' nc ns _ _ h
    exact (h : False).elim
def gt_Table_has (a : Nat) : Option Nat := match a with
  | _ => none
theorem go_Table_has : ∀ a v, gt_Table_has a = some v → StaOK R_Table a v := by
  intro a v h
  unfold gt_Table_has at h
  cases h
def pr_Table_has : List Ent := [(0, 3, 1, 0, 0), (1, 0, 0, 1, 0), (2, 34, 0, 0, 19), (5, 3, 1, 0, 0), (6, 0, 0, 5, 0), (7, 5, 0, 0, 0), (8, 39, 19, 0, 0), (11, 12, 0, 0, 0), (12, 36, 0, 0, 19), (15, 0, 0, 1, 0), (16, 38, 0, 0, 20), (19, 0, 0, 0, 0), (20, 48, 0, 0, 0)]
def sw_Table_has : List Swt := []
theorem dk_Table_has : ∀ q ∈ pr_Table_has, decode b_Table_has q.1 = .ok (dec sw_Table_has q) ∧ okE q = true := by decide +kernel
theorem nt_Table_has : ∀ q ∈ pr_Table_has, ¬ q.2.1 = 55 := by decide +kernel
def ct_Table_has (a : Nat) : Option (Nat × Nat × CSp × Nat × Nat) := match a with
  | _ => none
theorem co_Table_has : ∀ a v, ct_Table_has a = some v → StcOK R_Table 0 0 a v := by
  intro a v h
  unfold ct_Table_has at h
  cases h
/-- Table_has -/
def sp_Table_has : CSp := sRI (fun q x σ K _ => kT q.1 ∧ IV σ ∧ (1 ≤ nrm x ∧ nrm x ≤ 5 + σ q.1 q.2.1 q.2.2 3 → K (some (.inl 1)) σ) ∧ (¬ (1 ≤ nrm x ∧ nrm x ≤ 5 + σ q.1 q.2.1 q.2.2 3) → K (some (.inl 0)) σ))
set_option maxHeartbeats 4000000 in
set_option maxRecDepth 100000 in
theorem c_Table_has : Ctr y_Table_has b_Table_has 2 (some .boolean) 0 0 0 0 sp_Table_has := by
  refine ctr_of (FT := ft_Table) (GT := gt_Table_has) (CT := ct_Table_has) (sw := sw_Table_has) (rt := 1) (pr := pr_Table_has) (by decide) [] (fun _ _ _ _ _ _ _ _ _ _ _ => False) 30 ⟨fun h => absurd h (by decide), fun _ => rfl, fun h => absurd h (by decide), fun h => absurd h (by decide)⟩ dk_Table_has fo_Table go_Table_has co_Table_has (fun a k h hk => by unfold gt_Table_has at h; cases h) (fun q hq h => absurd h (nt_Table_has q hq)) (fun av σ K kx h => by rw [sRI_len h]; decide) ?_ ?_
  · intro av σ K kx hok hSp
    obtain ⟨q0, x0, rfl, hp⟩ := sRI_inv hSp
    obtain ⟨k0, e0, i0⟩ := q0
    obtain ⟨h0, hI, h2, h3⟩ := hp
    have i1 := IV_T hI h0 e0 i0
    all_goals (rcases h0 with h0 | h0 | h0)
    all_goals (dsimp only at h0; subst h0)
    all_goals (repeat' (first | (with_reducible assumption) | (with_reducible refine IV_upd ?_ ?_) | (with_reducible refine IV_cpy ?_ (fun _ _ _ _ => trivial)) | (refine And.intro ?_ ?_) | (intro _)))
    all_goals first | (first | rfl | decide | exact Or.inl rfl | exact Or.inr (Or.inl rfl) | exact Or.inr (Or.inr rfl) | (simp only [nrm, strm, by8] at * <;> omega) | (simp [upd4, cpy4, nrm, strm, by8] at * <;> omega)) | (exact h2 (by first | assumption | (first | rfl | decide | exact Or.inl rfl | exact Or.inr (Or.inl rfl) | exact Or.inr (Or.inr rfl) | (simp only [nrm, strm, by8] at * <;> omega) | (simp [upd4, cpy4, nrm, strm, by8] at * <;> omega)))) | (exact h3 (by first | assumption | (first | rfl | decide | exact Or.inl rfl | exact Or.inr (Or.inl rfl) | exact Or.inr (Or.inr rfl) | (simp only [nrm, strm, by8] at * <;> omega) | (simp [upd4, cpy4, nrm, strm, by8] at * <;> omega)))) | (exact h2) | (exact h3) | (refine h2 _ ?_ ?_ <;> (repeat' (first | assumption | exact trivial | exact Un_rf | exact hI 4 _ _ _ | exact hI 9 _ _ _ | exact hI 22 _ _ _ | (refine ixr_by8 ?_ ?_) | (refine IV_upd ?_ ?_) | (refine Un_upd rfl ?_) | (refine IV_cpy ?_ (fun _ _ _ _ => trivial)) | (refine Un_cpy rfl ?_) | (apply Un_tr; rotate_left; assumption; rfl) | (refine And.intro ?_ ?_))) <;> (first | rfl | decide | exact Or.inl rfl | exact Or.inr (Or.inl rfl) | exact Or.inr (Or.inr rfl) | (simp only [nrm, strm, by8] at * <;> omega) | (simp [upd4, cpy4, nrm, strm, by8] at * <;> omega))) | (refine h3 _ ?_ ?_ <;> (repeat' (first | assumption | exact trivial | exact Un_rf | exact hI 4 _ _ _ | exact hI 9 _ _ _ | exact hI 22 _ _ _ | (refine ixr_by8 ?_ ?_) | (refine IV_upd ?_ ?_) | (refine Un_upd rfl ?_) | (refine IV_cpy ?_ (fun _ _ _ _ => trivial)) | (refine Un_cpy rfl ?_) | (apply Un_tr; rotate_left; assumption; rfl) | (refine And.intro ?_ ?_))) <;> (first | rfl | decide | exact Or.inl rfl | exact Or.inr (Or.inl rfl) | exact Or.inr (Or.inr rfl) | (simp only [nrm, strm, by8] at * <;> omega) | (simp [upd4, cpy4, nrm, strm, by8] at * <;> omega))) | (apply h2 <;> (repeat' (first | assumption | exact trivial | exact Un_rf | exact hI 4 _ _ _ | exact hI 9 _ _ _ | exact hI 22 _ _ _ | (refine ixr_by8 ?_ ?_) | (refine IV_upd ?_ ?_) | (refine Un_upd rfl ?_) | (refine IV_cpy ?_ (fun _ _ _ _ => trivial)) | (refine Un_cpy rfl ?_) | (apply Un_tr; rotate_left; assumption; rfl) | (refine And.intro ?_ ?_))) <;> (first | rfl | decide | exact Or.inl rfl | exact Or.inr (Or.inl rfl) | exact Or.inr (Or.inr rfl) | (simp only [nrm, strm, by8] at * <;> omega) | (simp [upd4, cpy4, nrm, strm, by8] at * <;> omega))) | (apply h3 <;> (repeat' (first | assumption | exact trivial | exact Un_rf | exact hI 4 _ _ _ | exact hI 9 _ _ _ | exact hI 22 _ _ _ | (refine ixr_by8 ?_ ?_) | (refine IV_upd ?_ ?_) | (refine Un_upd rfl ?_) | (refine IV_cpy ?_ (fun _ _ _ _ => trivial)) | (refine Un_cpy rfl ?_) | (apply Un_tr; rotate_left; assumption; rfl) | (refine And.intro ?_ ?_))) <;> (first | rfl | decide | exact Or.inl rfl | exact Or.inr (Or.inl rfl) | exact Or.inr (Or.inr rfl) | (simp only [nrm, strm, by8] at * <;> omega) | (simp [upd4, cpy4, nrm, strm, by8] at * <;> omega))) | ((repeat' (first | assumption | exact trivial | exact Un_rf | exact hI 4 _ _ _ | exact hI 9 _ _ _ | exact hI 22 _ _ _ | (refine ixr_by8 ?_ ?_) | (refine IV_upd ?_ ?_) | (refine Un_upd rfl ?_) | (refine IV_cpy ?_ (fun _ _ _ _ => trivial)) | (refine Un_cpy rfl ?_) | (apply Un_tr; rotate_left; assumption; rfl) | (refine And.intro ?_ ?_))) <;> (first | rfl | decide | exact Or.inl rfl | exact Or.inr (Or.inl rfl) | exact Or.inr (Or.inr rfl) | (simp only [nrm, strm, by8] at * <;> omega) | (simp [upd4, cpy4, nrm, strm, by8] at * <;> omega)))
  · intro av σ K kx n pc L st σ' nc ns _ _ h
    exact (h : False).elim
def gt_Table_nameAt (a : Nat) : Option Nat := match a with
  | 49 => some 202
  | _ => none
theorem go_Table_nameAt : ∀ a v, gt_Table_nameAt a = some v → StaOK R_Table a v := by
  intro a v h
  unfold gt_Table_nameAt at h
  split at h
  · cases h; exact ⟨fun h => absurd h (by decide), fun h => absurd h (by decide), fun h => absurd h (by decide), fun _ => ⟨_, _, List.mem_of_getElem? (i := 2) rfl, by first | exact Or.inl (by decide +kernel) | exact Or.inr ⟨"FrameStreams", by decide +kernel⟩⟩⟩
  · cases h
def pr_Table_nameAt : List Ent := [(0, 5, 0, 0, 0), (1, 3, 1, 0, 0), (2, 46, 45, 0, 0), (5, 27, 0, 0, 10), (8, 0, 0, 0, 0), (9, 48, 0, 0, 0), (10, 3, 1, 0, 0), (11, 0, 0, 5, 0), (12, 36, 0, 0, 25), (15, 45, 49, 0, 0), (18, 3, 1, 0, 0), (19, 0, 0, 1, 0), (20, 13, 0, 0, 0), (21, 41, 0, 0, 0), (22, 38, 0, 0, 38), (25, 5, 0, 0, 0), (26, 39, 9, 0, 0), (29, 0, 0, 5, 0), (30, 5, 0, 0, 0), (31, 39, 19, 0, 0), (34, 12, 0, 0, 0), (35, 3, 1, 0, 0), (36, 13, 0, 0, 0), (37, 41, 0, 0, 0), (38, 48, 0, 0, 0)]
def sw_Table_nameAt : List Swt := []
theorem dk_Table_nameAt : ∀ q ∈ pr_Table_nameAt, decode b_Table_nameAt q.1 = .ok (dec sw_Table_nameAt q) ∧ okE q = true := by decide +kernel
theorem nt_Table_nameAt : ∀ q ∈ pr_Table_nameAt, ¬ q.2.1 = 55 := by decide +kernel
def ct_Table_nameAt (a : Nat) : Option (Nat × Nat × CSp × Nat × Nat) := match a with
  | 45 => some (2, 7, sp_Table_has, 0, 0)
  | _ => none
theorem co_Table_nameAt : ∀ a v, ct_Table_nameAt a = some v → StcOK R_Table 1 21 a v := by
  intro a v h
  unfold ct_Table_nameAt at h
  split at h
  · cases h; exact ⟨y_Table_has, b_Table_has, 2, (some .boolean), 0, 0, 1, c_Table_has, by decide, by decide +kernel, by decide +kernel, by decide +kernel, Or.inl ⟨rfl, by decide, by decide +kernel, by decide +kernel, _, _, rfl, by decide +kernel⟩⟩
  · cases h
/-- Table_nameAt -/
def sp_Table_nameAt : CSp := sRI (fun q x σ K _ => kT q.1 ∧ IV σ ∧ ∀ r, K (some (.inl r)) σ)
set_option maxHeartbeats 4000000 in
set_option maxRecDepth 100000 in
theorem c_Table_nameAt : Ctr y_Table_nameAt b_Table_nameAt 2 (some .int) 1 21 0 0 sp_Table_nameAt := by
  refine ctr_of (FT := ft_Table) (GT := gt_Table_nameAt) (CT := ct_Table_nameAt) (sw := sw_Table_nameAt) (rt := 0) (pr := pr_Table_nameAt) (by decide) [] (fun _ _ _ _ _ _ _ _ _ _ _ => False) 40 ⟨fun _ => rfl, fun h => absurd h (by decide), fun h => absurd h (by decide), fun h => absurd h (by decide)⟩ dk_Table_nameAt fo_Table go_Table_nameAt co_Table_nameAt (fun a k h hk => by unfold gt_Table_nameAt at h; split at h <;> first | exact ⟨by decide, by decide⟩ | (cases h; done) | (cases h; exact absurd hk (by decide))) (fun q hq h => absurd h (nt_Table_nameAt q hq)) (fun av σ K kx h => by rw [sRI_len h]; decide) ?_ ?_
  · intro av σ K kx hok hSp
    obtain ⟨q0, x0, rfl, hp⟩ := sRI_inv hSp
    obtain ⟨k0, e0, i0⟩ := q0
    obtain ⟨h0, hI, h2⟩ := hp
    have i1 := IV_T hI h0 e0 i0
    all_goals (rcases h0 with h0 | h0 | h0)
    all_goals (dsimp only at h0; subst h0)
    all_goals (repeat' (first | (with_reducible assumption) | (with_reducible refine IV_upd ?_ ?_) | (with_reducible refine IV_cpy ?_ (fun _ _ _ _ => trivial)) | (refine And.intro ?_ ?_) | (intro _)))
    all_goals first | (first | rfl | decide | exact Or.inl rfl | exact Or.inr (Or.inl rfl) | exact Or.inr (Or.inr rfl) | (simp only [nrm, strm, by8] at * <;> omega) | (simp [upd4, cpy4, nrm, strm, by8] at * <;> omega)) | (exact h2) | (refine h2 _ ?_ ?_ <;> (repeat' (first | assumption | exact trivial | exact Un_rf | exact hI 4 _ _ _ | exact hI 9 _ _ _ | exact hI 22 _ _ _ | (refine ixr_by8 ?_ ?_) | (refine IV_upd ?_ ?_) | (refine Un_upd rfl ?_) | (refine IV_cpy ?_ (fun _ _ _ _ => trivial)) | (refine Un_cpy rfl ?_) | (apply Un_tr; rotate_left; assumption; rfl) | (refine And.intro ?_ ?_))) <;> (first | rfl | decide | exact Or.inl rfl | exact Or.inr (Or.inl rfl) | exact Or.inr (Or.inr rfl) | (simp only [nrm, strm, by8] at * <;> omega) | (simp [upd4, cpy4, nrm, strm, by8] at * <;> omega))) | (apply h2 <;> (repeat' (first | assumption | exact trivial | exact Un_rf | exact hI 4 _ _ _ | exact hI 9 _ _ _ | exact hI 22 _ _ _ | (refine ixr_by8 ?_ ?_) | (refine IV_upd ?_ ?_) | (refine Un_upd rfl ?_) | (refine IV_cpy ?_ (fun _ _ _ _ => trivial)) | (refine Un_cpy rfl ?_) | (apply Un_tr; rotate_left; assumption; rfl) | (refine And.intro ?_ ?_))) <;> (first | rfl | decide | exact Or.inl rfl | exact Or.inr (Or.inl rfl) | exact Or.inr (Or.inr rfl) | (simp only [nrm, strm, by8] at * <;> omega) | (simp [upd4, cpy4, nrm, strm, by8] at * <;> omega))) | ((repeat' (first | assumption | exact trivial | exact Un_rf | exact hI 4 _ _ _ | exact hI 9 _ _ _ | exact hI 22 _ _ _ | (refine ixr_by8 ?_ ?_) | (refine IV_upd ?_ ?_) | (refine Un_upd rfl ?_) | (refine IV_cpy ?_ (fun _ _ _ _ => trivial)) | (refine Un_cpy rfl ?_) | (apply Un_tr; rotate_left; assumption; rfl) | (refine And.intro ?_ ?_))) <;> (first | rfl | decide | exact Or.inl rfl | exact Or.inr (Or.inl rfl) | exact Or.inr (Or.inr rfl) | (simp only [nrm, strm, by8] at * <;> omega) | (simp [upd4, cpy4, nrm, strm, by8] at * <;> omega)))
  · intro av σ K kx n pc L st σ' nc ns _ _ h
    exact (h : False).elim
def gt_Table_valueAt (a : Nat) : Option Nat := match a with
  | 52 => some 203
  | _ => none
theorem go_Table_valueAt : ∀ a v, gt_Table_valueAt a = some v → StaOK R_Table a v := by
  intro a v h
  unfold gt_Table_valueAt at h
  split at h
  · cases h; exact ⟨fun h => absurd h (by decide), fun h => absurd h (by decide), fun h => absurd h (by decide), fun _ => ⟨_, _, List.mem_of_getElem? (i := 3) rfl, by first | exact Or.inl (by decide +kernel) | exact Or.inr ⟨"FrameStreams", by decide +kernel⟩⟩⟩
  · cases h
def pr_Table_valueAt : List Ent := [(0, 5, 0, 0, 0), (1, 3, 1, 0, 0), (2, 46, 45, 0, 0), (5, 27, 0, 0, 10), (8, 0, 0, 0, 0), (9, 48, 0, 0, 0), (10, 3, 1, 0, 0), (11, 0, 0, 5, 0), (12, 36, 0, 0, 25), (15, 45, 52, 0, 0), (18, 3, 1, 0, 0), (19, 0, 0, 1, 0), (20, 13, 0, 0, 0), (21, 41, 0, 0, 0), (22, 38, 0, 0, 38), (25, 5, 0, 0, 0), (26, 39, 13, 0, 0), (29, 0, 0, 5, 0), (30, 5, 0, 0, 0), (31, 39, 19, 0, 0), (34, 12, 0, 0, 0), (35, 3, 1, 0, 0), (36, 13, 0, 0, 0), (37, 41, 0, 0, 0), (38, 48, 0, 0, 0)]
def sw_Table_valueAt : List Swt := []
theorem dk_Table_valueAt : ∀ q ∈ pr_Table_valueAt, decode b_Table_valueAt q.1 = .ok (dec sw_Table_valueAt q) ∧ okE q = true := by decide +kernel
theorem nt_Table_valueAt : ∀ q ∈ pr_Table_valueAt, ¬ q.2.1 = 55 := by decide +kernel
def ct_Table_valueAt (a : Nat) : Option (Nat × Nat × CSp × Nat × Nat) := match a with
  | 45 => some (2, 7, sp_Table_has, 0, 0)
  | _ => none
theorem co_Table_valueAt : ∀ a v, ct_Table_valueAt a = some v → StcOK R_Table 1 21 a v := by
  intro a v h
  unfold ct_Table_valueAt at h
  split at h
  · cases h; exact ⟨y_Table_has, b_Table_has, 2, (some .boolean), 0, 0, 1, c_Table_has, by decide, by decide +kernel, by decide +kernel, by decide +kernel, Or.inl ⟨rfl, by decide, by decide +kernel, by decide +kernel, _, _, rfl, by decide +kernel⟩⟩
  · cases h
/-- Table_valueAt -/
def sp_Table_valueAt : CSp := sRI (fun q x σ K _ => kT q.1 ∧ IV σ ∧ ∀ r, K (some (.inl r)) σ)
set_option maxHeartbeats 4000000 in
set_option maxRecDepth 100000 in
theorem c_Table_valueAt : Ctr y_Table_valueAt b_Table_valueAt 2 (some .int) 1 21 0 0 sp_Table_valueAt := by
  refine ctr_of (FT := ft_Table) (GT := gt_Table_valueAt) (CT := ct_Table_valueAt) (sw := sw_Table_valueAt) (rt := 0) (pr := pr_Table_valueAt) (by decide) [] (fun _ _ _ _ _ _ _ _ _ _ _ => False) 40 ⟨fun _ => rfl, fun h => absurd h (by decide), fun h => absurd h (by decide), fun h => absurd h (by decide)⟩ dk_Table_valueAt fo_Table go_Table_valueAt co_Table_valueAt (fun a k h hk => by unfold gt_Table_valueAt at h; split at h <;> first | exact ⟨by decide, by decide⟩ | (cases h; done) | (cases h; exact absurd hk (by decide))) (fun q hq h => absurd h (nt_Table_valueAt q hq)) (fun av σ K kx h => by rw [sRI_len h]; decide) ?_ ?_
  · intro av σ K kx hok hSp
    obtain ⟨q0, x0, rfl, hp⟩ := sRI_inv hSp
    obtain ⟨k0, e0, i0⟩ := q0
    obtain ⟨h0, hI, h2⟩ := hp
    have i1 := IV_T hI h0 e0 i0
    all_goals (rcases h0 with h0 | h0 | h0)
    all_goals (dsimp only at h0; subst h0)
    all_goals (repeat' (first | (with_reducible assumption) | (with_reducible refine IV_upd ?_ ?_) | (with_reducible refine IV_cpy ?_ (fun _ _ _ _ => trivial)) | (refine And.intro ?_ ?_) | (intro _)))
    all_goals first | (first | rfl | decide | exact Or.inl rfl | exact Or.inr (Or.inl rfl) | exact Or.inr (Or.inr rfl) | (simp only [nrm, strm, by8] at * <;> omega) | (simp [upd4, cpy4, nrm, strm, by8] at * <;> omega)) | (exact h2) | (refine h2 _ ?_ ?_ <;> (repeat' (first | assumption | exact trivial | exact Un_rf | exact hI 4 _ _ _ | exact hI 9 _ _ _ | exact hI 22 _ _ _ | (refine ixr_by8 ?_ ?_) | (refine IV_upd ?_ ?_) | (refine Un_upd rfl ?_) | (refine IV_cpy ?_ (fun _ _ _ _ => trivial)) | (refine Un_cpy rfl ?_) | (apply Un_tr; rotate_left; assumption; rfl) | (refine And.intro ?_ ?_))) <;> (first | rfl | decide | exact Or.inl rfl | exact Or.inr (Or.inl rfl) | exact Or.inr (Or.inr rfl) | (simp only [nrm, strm, by8] at * <;> omega) | (simp [upd4, cpy4, nrm, strm, by8] at * <;> omega))) | (apply h2 <;> (repeat' (first | assumption | exact trivial | exact Un_rf | exact hI 4 _ _ _ | exact hI 9 _ _ _ | exact hI 22 _ _ _ | (refine ixr_by8 ?_ ?_) | (refine IV_upd ?_ ?_) | (refine Un_upd rfl ?_) | (refine IV_cpy ?_ (fun _ _ _ _ => trivial)) | (refine Un_cpy rfl ?_) | (apply Un_tr; rotate_left; assumption; rfl) | (refine And.intro ?_ ?_))) <;> (first | rfl | decide | exact Or.inl rfl | exact Or.inr (Or.inl rfl) | exact Or.inr (Or.inr rfl) | (simp only [nrm, strm, by8] at * <;> omega) | (simp [upd4, cpy4, nrm, strm, by8] at * <;> omega))) | ((repeat' (first | assumption | exact trivial | exact Un_rf | exact hI 4 _ _ _ | exact hI 9 _ _ _ | exact hI 22 _ _ _ | (refine ixr_by8 ?_ ?_) | (refine IV_upd ?_ ?_) | (refine Un_upd rfl ?_) | (refine IV_cpy ?_ (fun _ _ _ _ => trivial)) | (refine Un_cpy rfl ?_) | (apply Un_tr; rotate_left; assumption; rfl) | (refine And.intro ?_ ?_))) <;> (first | rfl | decide | exact Or.inl rfl | exact Or.inr (Or.inl rfl) | exact Or.inr (Or.inr rfl) | (simp only [nrm, strm, by8] at * <;> omega) | (simp [upd4, cpy4, nrm, strm, by8] at * <;> omega)))
  · intro av σ K kx n pc L st σ' nc ns _ _ h
    exact (h : False).elim
def gt_Table_indexOf (a : Nat) : Option Nat := match a with
  | _ => none
theorem go_Table_indexOf : ∀ a v, gt_Table_indexOf a = some v → StaOK R_Table a v := by
  intro a v h
  unfold gt_Table_indexOf at h
  cases h
def pr_Table_indexOf : List Ent := [(0, 0, 0, 1, 0), (1, 7, 3, 0, 0), (2, 3, 3, 0, 0), (3, 0, 0, 5, 0), (4, 5, 0, 0, 0), (5, 39, 19, 0, 0), (8, 12, 0, 0, 0), (9, 36, 0, 0, 38), (12, 5, 0, 0, 0), (13, 3, 3, 0, 0), (14, 46, 55, 0, 0), (17, 3, 1, 0, 0), (18, 33, 0, 0, 32), (21, 5, 0, 0, 0), (22, 3, 3, 0, 0), (23, 46, 58, 0, 0), (26, 3, 2, 0, 0), (27, 33, 0, 0, 32), (30, 3, 3, 0, 0), (31, 48, 0, 0, 0), (32, 11, 3, 1, 0), (35, 38, 0, 0, 2), (38, 0, 0, 0, 0), (39, 48, 0, 0, 0)]
def sw_Table_indexOf : List Swt := []
theorem dk_Table_indexOf : ∀ q ∈ pr_Table_indexOf, decode b_Table_indexOf q.1 = .ok (dec sw_Table_indexOf q) ∧ okE q = true := by decide +kernel
theorem nt_Table_indexOf : ∀ q ∈ pr_Table_indexOf, ¬ q.2.1 = 55 := by decide +kernel
def ct_Table_indexOf (a : Nat) : Option (Nat × Nat × CSp × Nat × Nat) := match a with
  | 55 => some (2, 7, sp_Table_nameAt, 0, 0)
  | 58 => some (2, 7, sp_Table_valueAt, 0, 0)
  | _ => none
theorem co_Table_indexOf : ∀ a v, ct_Table_indexOf a = some v → StcOK R_Table 2 42 a v := by
  intro a v h
  unfold ct_Table_indexOf at h
  split at h
  · cases h; exact ⟨y_Table_nameAt, b_Table_nameAt, 2, (some .int), 1, 21, 1, c_Table_nameAt, by decide, by decide +kernel, by decide +kernel, by decide +kernel, Or.inl ⟨rfl, by decide, by decide +kernel, by decide +kernel, _, _, rfl, by decide +kernel⟩⟩
  · cases h; exact ⟨y_Table_valueAt, b_Table_valueAt, 2, (some .int), 1, 21, 1, c_Table_valueAt, by decide, by decide +kernel, by decide +kernel, by decide +kernel, Or.inl ⟨rfl, by decide, by decide +kernel, by decide +kernel, _, _, rfl, by decide +kernel⟩⟩
  · cases h
/-- Table_indexOf -/
def sp_Table_indexOf : CSp := sRII (fun q x0 x1 σ K _ => kT q.1 ∧ IV σ ∧ ∀ r, 0 ≤ r ∧ r ≤ 13 → K (some (.inl r)) σ)
set_option maxHeartbeats 4000000 in
set_option maxRecDepth 100000 in
theorem c_Table_indexOf : Ctr y_Table_indexOf b_Table_indexOf 4 (some .int) 2 42 0 0 sp_Table_indexOf := by
  refine ctr_of (FT := ft_Table) (GT := gt_Table_indexOf) (CT := ct_Table_indexOf) (sw := sw_Table_indexOf) (rt := 0) (pr := pr_Table_indexOf) (by decide) [2] (fun av σ _ _ n pc L st σ' nc ns => ∃ k e i x y j, av = [.inr (k, e, i), .inl x, .inl y] ∧ pc = 2 ∧ L = [some (.inr (k, e, i)), some (.inl x), some (.inl y), some (.inl j)] ∧ st = [] ∧ σ' = σ ∧ nc = 0 ∧ ns = 0 ∧ 1 ≤ j ∧ j ≤ 14 ∧ n = (14 - j).toNat) 40 ⟨fun _ => rfl, fun h => absurd h (by decide), fun h => absurd h (by decide), fun h => absurd h (by decide)⟩ dk_Table_indexOf fo_Table go_Table_indexOf co_Table_indexOf (fun a k h hk => by unfold gt_Table_indexOf at h; cases h) (fun q hq h => absurd h (nt_Table_indexOf q hq)) (fun av σ K kx h => by rw [sRII_len h]; decide) ?_ ?_
  · intro av σ K kx hok hSp
    obtain ⟨q0, x0, x1, rfl, hp⟩ := sRII_inv hSp
    obtain ⟨k0, e0, i0⟩ := q0
    obtain ⟨h0, hI, h2⟩ := hp
    rcases h0 with h0 | h0 | h0
    all_goals (dsimp only at h0; subst h0)
    all_goals exact ⟨13, _, e0, i0, x0, x1, 1, rfl, rfl, rfl, rfl, rfl, rfl, rfl, by omega, by omega, rfl⟩
  · intro av σ K kx n pc L st σ' nc ns hok hSp hJ
    obtain ⟨k, e, i, x, y, j, rfl, rfl, rfl, rfl, rfl, rfl, rfl, h0, h6, hn⟩ := hJ
    obtain ⟨hk, hI, hf⟩ : kT k ∧ IV σ' ∧ ∀ r, 0 ≤ r ∧ r ≤ 13 → K (some (.inl r)) σ' := hSp
    have i1 := IV_T hI hk e i
    have hk2 := hk
    rcases hk with hk | hk | hk
    all_goals subst hk
    all_goals (repeat' (first | (with_reducible assumption) | (refine And.intro ?_ ?_) | (intro _)))
    all_goals first | (first | rfl | decide | exact Or.inl rfl | exact Or.inr (Or.inl rfl) | exact Or.inr (Or.inr rfl) | (simp only [nrm] at * <;> omega)) | exact hk2 | (refine hf _ ?_ <;> (simp only [nrm] at * <;> omega)) | (refine ⟨(14 - (j + 1)).toNat, ?_, _, e, i, x, y, j + 1, rfl, rfl, rfl, rfl, rfl, rfl, rfl, ?_, ?_, rfl⟩ <;> (simp only [nrm] at * <;> omega)) | skip
def gt_Table_indexOfName (a : Nat) : Option Nat := match a with
  | _ => none
theorem go_Table_indexOfName : ∀ a v, gt_Table_indexOfName a = some v → StaOK R_Table a v := by
  intro a v h
  unfold gt_Table_indexOfName at h
  cases h
def pr_Table_indexOfName : List Ent := [(0, 0, 0, 1, 0), (1, 7, 2, 0, 0), (2, 3, 2, 0, 0), (3, 0, 0, 5, 0), (4, 5, 0, 0, 0), (5, 39, 19, 0, 0), (8, 12, 0, 0, 0), (9, 36, 0, 0, 29), (12, 5, 0, 0, 0), (13, 3, 2, 0, 0), (14, 46, 55, 0, 0), (17, 3, 1, 0, 0), (18, 33, 0, 0, 23), (21, 3, 2, 0, 0), (22, 48, 0, 0, 0), (23, 11, 2, 1, 0), (26, 38, 0, 0, 2), (29, 0, 0, 0, 0), (30, 48, 0, 0, 0)]
def sw_Table_indexOfName : List Swt := []
theorem dk_Table_indexOfName : ∀ q ∈ pr_Table_indexOfName, decode b_Table_indexOfName q.1 = .ok (dec sw_Table_indexOfName q) ∧ okE q = true := by decide +kernel
theorem nt_Table_indexOfName : ∀ q ∈ pr_Table_indexOfName, ¬ q.2.1 = 55 := by decide +kernel
def ct_Table_indexOfName (a : Nat) : Option (Nat × Nat × CSp × Nat × Nat) := match a with
  | 55 => some (2, 7, sp_Table_nameAt, 0, 0)
  | _ => none
theorem co_Table_indexOfName : ∀ a v, ct_Table_indexOfName a = some v → StcOK R_Table 2 42 a v := by
  intro a v h
  unfold ct_Table_indexOfName at h
  split at h
  · cases h; exact ⟨y_Table_nameAt, b_Table_nameAt, 2, (some .int), 1, 21, 1, c_Table_nameAt, by decide, by decide +kernel, by decide +kernel, by decide +kernel, Or.inl ⟨rfl, by decide, by decide +kernel, by decide +kernel, _, _, rfl, by decide +kernel⟩⟩
  · cases h
/-- Table_indexOfName -/
def sp_Table_indexOfName : CSp := sRI (fun q x0 σ K _ => kT q.1 ∧ IV σ ∧ ∀ r, 0 ≤ r ∧ r ≤ 13 → K (some (.inl r)) σ)
set_option maxHeartbeats 4000000 in
set_option maxRecDepth 100000 in
theorem c_Table_indexOfName : Ctr y_Table_indexOfName b_Table_indexOfName 3 (some .int) 2 42 0 0 sp_Table_indexOfName := by
  refine ctr_of (FT := ft_Table) (GT := gt_Table_indexOfName) (CT := ct_Table_indexOfName) (sw := sw_Table_indexOfName) (rt := 0) (pr := pr_Table_indexOfName) (by decide) [2] (fun av σ _ _ n pc L st σ' nc ns => ∃ k e i x j, av = [.inr (k, e, i), .inl x] ∧ pc = 2 ∧ L = [some (.inr (k, e, i)), some (.inl x), some (.inl j)] ∧ st = [] ∧ σ' = σ ∧ nc = 0 ∧ ns = 0 ∧ 1 ≤ j ∧ j ≤ 14 ∧ n = (14 - j).toNat) 30 ⟨fun _ => rfl, fun h => absurd h (by decide), fun h => absurd h (by decide), fun h => absurd h (by decide)⟩ dk_Table_indexOfName fo_Table go_Table_indexOfName co_Table_indexOfName (fun a k h hk => by unfold gt_Table_indexOfName at h; cases h) (fun q hq h => absurd h (nt_Table_indexOfName q hq)) (fun av σ K kx h => by rw [sRI_len h]; decide) ?_ ?_
  · intro av σ K kx hok hSp
    obtain ⟨q0, x0, rfl, hp⟩ := sRI_inv hSp
    obtain ⟨k0, e0, i0⟩ := q0
    obtain ⟨h0, hI, h2⟩ := hp
    rcases h0 with h0 | h0 | h0
    all_goals (dsimp only at h0; subst h0)
    all_goals exact ⟨13, _, e0, i0, x0, 1, rfl, rfl, rfl, rfl, rfl, rfl, rfl, by omega, by omega, rfl⟩
  · intro av σ K kx n pc L st σ' nc ns hok hSp hJ
    obtain ⟨k, e, i, x, j, rfl, rfl, rfl, rfl, rfl, rfl, rfl, h0, h6, hn⟩ := hJ
    obtain ⟨hk, hI, hf⟩ : kT k ∧ IV σ' ∧ ∀ r, 0 ≤ r ∧ r ≤ 13 → K (some (.inl r)) σ' := hSp
    have i1 := IV_T hI hk e i
    have hk2 := hk
    rcases hk with hk | hk | hk
    all_goals subst hk
    all_goals (repeat' (first | (with_reducible assumption) | (refine And.intro ?_ ?_) | (intro _)))
    all_goals first | (first | rfl | decide | exact Or.inl rfl | exact Or.inr (Or.inl rfl) | exact Or.inr (Or.inr rfl) | (simp only [nrm] at * <;> omega)) | exact hk2 | (refine hf _ ?_ <;> (simp only [nrm] at * <;> omega)) | (refine ⟨(14 - (j + 1)).toNat, ?_, _, e, i, x, j + 1, rfl, rfl, rfl, rfl, rfl, rfl, rfl, ?_, ?_, rfl⟩ <;> (simp only [nrm] at * <;> omega)) | skip
def gt_Table_copyFrom (a : Nat) : Option Nat := match a with
  | 39 => some 303
  | _ => none
theorem go_Table_copyFrom : ∀ a v, gt_Table_copyFrom a = some v → StaOK R_Table a v := by
  intro a v h
  unfold gt_Table_copyFrom at h
  split at h
  · cases h; exact ⟨fun h => absurd h (by decide), fun h => absurd h (by decide), fun _ => by decide +kernel, fun h => absurd h (by decide)⟩
  · cases h
def pr_Table_copyFrom : List Ent := [(0, 5, 0, 0, 0), (1, 5, 1, 0, 0), (2, 39, 19, 0, 0), (5, 40, 19, 0, 0), (8, 5, 0, 0, 0), (9, 5, 1, 0, 0), (10, 39, 23, 0, 0), (13, 40, 23, 0, 0), (16, 5, 0, 0, 0), (17, 5, 1, 0, 0), (18, 39, 26, 0, 0), (21, 40, 26, 0, 0), (24, 5, 1, 0, 0), (25, 39, 9, 0, 0), (28, 0, 0, 0, 0), (29, 5, 0, 0, 0), (30, 39, 9, 0, 0), (33, 0, 0, 0, 0), (34, 5, 0, 0, 0), (35, 39, 19, 0, 0), (38, 54, 39, 0, 0), (41, 5, 1, 0, 0), (42, 39, 13, 0, 0), (45, 0, 0, 0, 0), (46, 5, 0, 0, 0), (47, 39, 13, 0, 0), (50, 0, 0, 0, 0), (51, 5, 0, 0, 0), (52, 39, 19, 0, 0), (55, 54, 39, 0, 0), (58, 5, 1, 0, 0), (59, 39, 16, 0, 0), (62, 0, 0, 0, 0), (63, 5, 0, 0, 0), (64, 39, 16, 0, 0), (67, 0, 0, 0, 0), (68, 5, 0, 0, 0), (69, 39, 19, 0, 0), (72, 54, 39, 0, 0), (75, 49, 0, 0, 0)]
def sw_Table_copyFrom : List Swt := []
theorem dk_Table_copyFrom : ∀ q ∈ pr_Table_copyFrom, decode b_Table_copyFrom q.1 = .ok (dec sw_Table_copyFrom q) ∧ okE q = true := by decide +kernel
theorem nt_Table_copyFrom : ∀ q ∈ pr_Table_copyFrom, ¬ q.2.1 = 55 := by decide +kernel
def ct_Table_copyFrom (a : Nat) : Option (Nat × Nat × CSp × Nat × Nat) := match a with
  | _ => none
theorem co_Table_copyFrom : ∀ a v, ct_Table_copyFrom a = some v → StcOK R_Table 1 26 a v := by
  intro a v h
  unfold ct_Table_copyFrom at h
  cases h
/-- Table_copyFrom -/
def sp_Table_copyFrom : CSp := sRR (fun q q1 σ K _ => kT q.1 ∧ kT q1.1 ∧ IV σ ∧ ∀ σ', IV σ' → Un [q.1, q.1 + 1, q.1 + 2, q.1 + 3] σ σ' → K none σ')
set_option maxHeartbeats 4000000 in
set_option maxRecDepth 100000 in
theorem c_Table_copyFrom : Ctr y_Table_copyFrom b_Table_copyFrom 2 none 1 26 0 0 sp_Table_copyFrom := by
  refine ctr_of (FT := ft_Table) (GT := gt_Table_copyFrom) (CT := ct_Table_copyFrom) (sw := sw_Table_copyFrom) (rt := 2) (pr := pr_Table_copyFrom) (by decide) [] (fun _ _ _ _ _ _ _ _ _ _ _ => False) 60 ⟨fun h => absurd h (by decide), fun h => absurd h (by decide), fun _ => rfl, fun h => absurd h (by decide)⟩ dk_Table_copyFrom fo_Table go_Table_copyFrom co_Table_copyFrom (fun a k h hk => by unfold gt_Table_copyFrom at h; split at h <;> first | exact ⟨by decide, by decide⟩ | (cases h; done) | (cases h; exact absurd hk (by decide))) (fun q hq h => absurd h (nt_Table_copyFrom q hq)) (fun av σ K kx h => by rw [sRR_len h]; decide) ?_ ?_
  · intro av σ K kx hok hSp
    obtain ⟨q0, q1, rfl, hp⟩ := sRR_inv hSp
    obtain ⟨k0, e0, i0⟩ := q0
    obtain ⟨k1, e1, i1⟩ := q1
    obtain ⟨h0, h1, hI, h3⟩ := hp
    have j1 := IV_T hI h0 e0 i0
    have j2 := IV_T hI h1 e1 i1
    all_goals (rcases h0 with h0 | h0 | h0)
    all_goals (dsimp only at h0; subst h0)
    all_goals (rcases h1 with h1 | h1 | h1)
    all_goals (dsimp only at h1; subst h1)
    all_goals (repeat' (first | (with_reducible assumption) | (with_reducible refine IV_upd ?_ ?_) | (with_reducible refine IV_cpy ?_ (fun _ _ _ _ => trivial)) | (refine And.intro ?_ ?_) | (intro _)))
    all_goals first | (first | rfl | decide | exact Or.inl rfl | exact Or.inr (Or.inl rfl) | exact Or.inr (Or.inr rfl) | (simp only [nrm, strm, by8] at * <;> omega) | (simp [upd4, cpy4, nrm, strm, by8] at * <;> omega)) | (exact h3) | (refine h3 _ ?_ ?_ <;> (repeat' (first | assumption | exact trivial | exact Un_rf | exact hI 4 _ _ _ | exact hI 9 _ _ _ | exact hI 22 _ _ _ | (refine ixr_by8 ?_ ?_) | (refine IV_upd ?_ ?_) | (refine Un_upd rfl ?_) | (refine IV_cpy ?_ (fun _ _ _ _ => trivial)) | (refine Un_cpy rfl ?_) | (apply Un_tr; rotate_left; assumption; rfl) | (refine And.intro ?_ ?_))) <;> (first | rfl | decide | exact Or.inl rfl | exact Or.inr (Or.inl rfl) | exact Or.inr (Or.inr rfl) | (simp only [nrm, strm, by8] at * <;> omega) | (simp [upd4, cpy4, nrm, strm, by8] at * <;> omega))) | (apply h3 <;> (repeat' (first | assumption | exact trivial | exact Un_rf | exact hI 4 _ _ _ | exact hI 9 _ _ _ | exact hI 22 _ _ _ | (refine ixr_by8 ?_ ?_) | (refine IV_upd ?_ ?_) | (refine Un_upd rfl ?_) | (refine IV_cpy ?_ (fun _ _ _ _ => trivial)) | (refine Un_cpy rfl ?_) | (apply Un_tr; rotate_left; assumption; rfl) | (refine And.intro ?_ ?_))) <;> (first | rfl | decide | exact Or.inl rfl | exact Or.inr (Or.inl rfl) | exact Or.inr (Or.inr rfl) | (simp only [nrm, strm, by8] at * <;> omega) | (simp [upd4, cpy4, nrm, strm, by8] at * <;> omega))) | ((repeat' (first | assumption | exact trivial | exact Un_rf | exact hI 4 _ _ _ | exact hI 9 _ _ _ | exact hI 22 _ _ _ | (refine ixr_by8 ?_ ?_) | (refine IV_upd ?_ ?_) | (refine Un_upd rfl ?_) | (refine IV_cpy ?_ (fun _ _ _ _ => trivial)) | (refine Un_cpy rfl ?_) | (apply Un_tr; rotate_left; assumption; rfl) | (refine And.intro ?_ ?_))) <;> (first | rfl | decide | exact Or.inl rfl | exact Or.inr (Or.inl rfl) | exact Or.inr (Or.inr rfl) | (simp only [nrm, strm, by8] at * <;> omega) | (simp [upd4, cpy4, nrm, strm, by8] at * <;> omega)))
  · intro av σ K kx n pc L st σ' nc ns _ _ h
    exact (h : False).elim
end
section
def ft_Stream (a : Nat) : Option (Nat × Nat × Nat) := match a with
  | 12 => some (6, 0, 2)
  | 18 => some (6, 1, 0)
  | 22 => some (6, 2, 0)
  | 25 => some (6, 3, 0)
  | 28 => some (6, 4, 0)
  | 31 => some (6, 5, 0)
  | _ => none
theorem fo_Stream : ∀ a v, ft_Stream a = some v → FldOK R_Stream a v := by
  intro a v h
  unfold ft_Stream at h
  split at h
  · cases h; exact fl_Stream _ _ _ _ (by decide) (by decide +kernel) (by decide)
  · cases h; exact fl_Stream _ _ _ _ (by decide) (by decide +kernel) (by decide)
  · cases h; exact fl_Stream _ _ _ _ (by decide) (by decide +kernel) (by decide)
  · cases h; exact fl_Stream _ _ _ _ (by decide) (by decide +kernel) (by decide)
  · cases h; exact fl_Stream _ _ _ _ (by decide) (by decide +kernel) (by decide)
  · cases h; exact fl_Stream _ _ _ _ (by decide) (by decide +kernel) (by decide)
  · cases h
def gt_Stream_open (a : Nat) : Option Nat := match a with
  | _ => none
theorem go_Stream_open : ∀ a v, gt_Stream_open a = some v → StaOK R_Stream a v := by
  intro a v h
  unfold gt_Stream_open at h
  cases h
def pr_Stream_open : List Ent := [(0, 5, 0, 0, 0), (1, 0, 0, 1, 0), (2, 40, 18, 0, 0), (5, 5, 0, 0, 0), (6, 3, 1, 0, 0), (7, 40, 22, 0, 0), (10, 5, 0, 0, 0), (11, 3, 2, 0, 0), (12, 40, 25, 0, 0), (15, 49, 0, 0, 0)]
def sw_Stream_open : List Swt := []
theorem dk_Stream_open : ∀ q ∈ pr_Stream_open, decode b_Stream_open q.1 = .ok (dec sw_Stream_open q) ∧ okE q = true := by decide +kernel
theorem nt_Stream_open : ∀ q ∈ pr_Stream_open, ¬ q.2.1 = 55 := by decide +kernel
def ct_Stream_open (a : Nat) : Option (Nat × Nat × CSp × Nat × Nat) := match a with
  | _ => none
theorem co_Stream_open : ∀ a v, ct_Stream_open a = some v → StcOK R_Stream 0 0 a v := by
  intro a v h
  unfold ct_Stream_open at h
  cases h
/-- Stream_open -/
def sp_Stream_open : CSp := sRII (fun q x0 x1 σ K _ => q.1 = 32 ∧ IV σ ∧ ∀ σ', IV σ' → Un [32] σ σ' → K none σ')
set_option maxHeartbeats 4000000 in
set_option maxRecDepth 100000 in
theorem c_Stream_open : Ctr y_Stream_open b_Stream_open 3 none 0 0 0 0 sp_Stream_open := by
  refine ctr_of (FT := ft_Stream) (GT := gt_Stream_open) (CT := ct_Stream_open) (sw := sw_Stream_open) (rt := 2) (pr := pr_Stream_open) (by decide) [] (fun _ _ _ _ _ _ _ _ _ _ _ => False) 30 ⟨fun h => absurd h (by decide), fun h => absurd h (by decide), fun _ => rfl, fun h => absurd h (by decide)⟩ dk_Stream_open fo_Stream go_Stream_open co_Stream_open (fun a k h hk => by unfold gt_Stream_open at h; cases h) (fun q hq h => absurd h (nt_Stream_open q hq)) (fun av σ K kx h => by rw [sRII_len h]; decide) ?_ ?_
  · intro av σ K kx hok hSp
    obtain ⟨q0, x0, x1, rfl, hp⟩ := sRII_inv hSp
    obtain ⟨k0, e0, i0⟩ := q0
    obtain ⟨h0, hI, h2⟩ := hp
    dsimp only at h0; subst h0
    all_goals (repeat' (first | (with_reducible assumption) | (with_reducible refine IV_upd ?_ ?_) | (with_reducible refine IV_cpy ?_ (fun _ _ _ _ => trivial)) | (refine And.intro ?_ ?_) | (intro _)))
    all_goals first | (first | rfl | decide | exact Or.inl rfl | exact Or.inr (Or.inl rfl) | exact Or.inr (Or.inr rfl) | (simp only [nrm, strm, by8] at * <;> omega) | (simp [upd4, cpy4, nrm, strm, by8] at * <;> omega)) | (exact h2) | (refine h2 _ ?_ ?_ <;> (repeat' (first | assumption | exact trivial | exact Un_rf | exact hI 4 _ _ _ | exact hI 9 _ _ _ | exact hI 22 _ _ _ | (refine ixr_by8 ?_ ?_) | (refine IV_upd ?_ ?_) | (refine Un_upd rfl ?_) | (refine IV_cpy ?_ (fun _ _ _ _ => trivial)) | (refine Un_cpy rfl ?_) | (apply Un_tr; rotate_left; assumption; rfl) | (refine And.intro ?_ ?_))) <;> (first | rfl | decide | exact Or.inl rfl | exact Or.inr (Or.inl rfl) | exact Or.inr (Or.inr rfl) | (simp only [nrm, strm, by8] at * <;> omega) | (simp [upd4, cpy4, nrm, strm, by8] at * <;> omega))) | (apply h2 <;> (repeat' (first | assumption | exact trivial | exact Un_rf | exact hI 4 _ _ _ | exact hI 9 _ _ _ | exact hI 22 _ _ _ | (refine ixr_by8 ?_ ?_) | (refine IV_upd ?_ ?_) | (refine Un_upd rfl ?_) | (refine IV_cpy ?_ (fun _ _ _ _ => trivial)) | (refine Un_cpy rfl ?_) | (apply Un_tr; rotate_left; assumption; rfl) | (refine And.intro ?_ ?_))) <;> (first | rfl | decide | exact Or.inl rfl | exact Or.inr (Or.inl rfl) | exact Or.inr (Or.inr rfl) | (simp only [nrm, strm, by8] at * <;> omega) | (simp [upd4, cpy4, nrm, strm, by8] at * <;> omega))) | ((repeat' (first | assumption | exact trivial | exact Un_rf | exact hI 4 _ _ _ | exact hI 9 _ _ _ | exact hI 22 _ _ _ | (refine ixr_by8 ?_ ?_) | (refine IV_upd ?_ ?_) | (refine Un_upd rfl ?_) | (refine IV_cpy ?_ (fun _ _ _ _ => trivial)) | (refine Un_cpy rfl ?_) | (apply Un_tr; rotate_left; assumption; rfl) | (refine And.intro ?_ ?_))) <;> (first | rfl | decide | exact Or.inl rfl | exact Or.inr (Or.inl rfl) | exact Or.inr (Or.inr rfl) | (simp only [nrm, strm, by8] at * <;> omega) | (simp [upd4, cpy4, nrm, strm, by8] at * <;> omega)))
  · intro av σ K kx n pc L st σ' nc ns _ _ h
    exact (h : False).elim
def gt_Stream_isIdle (a : Nat) : Option Nat := match a with
  | _ => none
theorem go_Stream_isIdle : ∀ a v, gt_Stream_isIdle a = some v → StaOK R_Stream a v := by
  intro a v h
  unfold gt_Stream_isIdle at h
  cases h
def pr_Stream_isIdle : List Ent := [(0, 5, 0, 0, 0), (1, 39, 18, 0, 0), (4, 27, 0, 0, 11), (7, 0, 0, 1, 0), (8, 38, 0, 0, 12), (11, 0, 0, 0, 0), (12, 48, 0, 0, 0)]
def sw_Stream_isIdle : List Swt := []
theorem dk_Stream_isIdle : ∀ q ∈ pr_Stream_isIdle, decode b_Stream_isIdle q.1 = .ok (dec sw_Stream_isIdle q) ∧ okE q = true := by decide +kernel
theorem nt_Stream_isIdle : ∀ q ∈ pr_Stream_isIdle, ¬ q.2.1 = 55 := by decide +kernel
def ct_Stream_isIdle (a : Nat) : Option (Nat × Nat × CSp × Nat × Nat) := match a with
  | _ => none
theorem co_Stream_isIdle : ∀ a v, ct_Stream_isIdle a = some v → StcOK R_Stream 0 0 a v := by
  intro a v h
  unfold ct_Stream_isIdle at h
  cases h
/-- Stream_isIdle -/
def sp_Stream_isIdle : CSp := sR (fun q σ K _ => q.1 = 32 ∧ (nrm (σ 32 q.2.1 q.2.2 1) = 0 → K (some (.inl 1)) σ) ∧ (¬ nrm (σ 32 q.2.1 q.2.2 1) = 0 → K (some (.inl 0)) σ))
set_option maxHeartbeats 4000000 in
set_option maxRecDepth 100000 in
theorem c_Stream_isIdle : Ctr y_Stream_isIdle b_Stream_isIdle 1 (some .boolean) 0 0 0 0 sp_Stream_isIdle := by
  refine ctr_of (FT := ft_Stream) (GT := gt_Stream_isIdle) (CT := ct_Stream_isIdle) (sw := sw_Stream_isIdle) (rt := 1) (pr := pr_Stream_isIdle) (by decide) [] (fun _ _ _ _ _ _ _ _ _ _ _ => False) 20 ⟨fun h => absurd h (by decide), fun _ => rfl, fun h => absurd h (by decide), fun h => absurd h (by decide)⟩ dk_Stream_isIdle fo_Stream go_Stream_isIdle co_Stream_isIdle (fun a k h hk => by unfold gt_Stream_isIdle at h; cases h) (fun q hq h => absurd h (nt_Stream_isIdle q hq)) (fun av σ K kx h => by rw [sR_len h]; decide) ?_ ?_
  · intro av σ K kx hok hSp
    obtain ⟨q0, rfl, hp⟩ := sR_inv hSp
    obtain ⟨k0, e0, i0⟩ := q0
    obtain ⟨h0, h1, h2⟩ := hp
    dsimp only at h0; subst h0
    all_goals (repeat' (first | (with_reducible assumption) | (with_reducible refine IV_upd ?_ ?_) | (with_reducible refine IV_cpy ?_ (fun _ _ _ _ => trivial)) | (refine And.intro ?_ ?_) | (intro _)))
    all_goals first | (first | rfl | decide | exact Or.inl rfl | exact Or.inr (Or.inl rfl) | exact Or.inr (Or.inr rfl) | (simp only [nrm, strm, by8] at * <;> omega) | (simp [upd4, cpy4, nrm, strm, by8] at * <;> omega)) | (exact h1 (by first | assumption | (first | rfl | decide | exact Or.inl rfl | exact Or.inr (Or.inl rfl) | exact Or.inr (Or.inr rfl) | (simp only [nrm, strm, by8] at * <;> omega) | (simp [upd4, cpy4, nrm, strm, by8] at * <;> omega)))) | (exact h2 (by first | assumption | (first | rfl | decide | exact Or.inl rfl | exact Or.inr (Or.inl rfl) | exact Or.inr (Or.inr rfl) | (simp only [nrm, strm, by8] at * <;> omega) | (simp [upd4, cpy4, nrm, strm, by8] at * <;> omega)))) | (exact h1) | (exact h2) | (refine h1 _ ?_ ?_ <;> (repeat' (first | assumption | exact trivial | exact Un_rf | exact hI 4 _ _ _ | exact hI 9 _ _ _ | exact hI 22 _ _ _ | (refine ixr_by8 ?_ ?_) | (refine IV_upd ?_ ?_) | (refine Un_upd rfl ?_) | (refine IV_cpy ?_ (fun _ _ _ _ => trivial)) | (refine Un_cpy rfl ?_) | (apply Un_tr; rotate_left; assumption; rfl) | (refine And.intro ?_ ?_))) <;> (first | rfl | decide | exact Or.inl rfl | exact Or.inr (Or.inl rfl) | exact Or.inr (Or.inr rfl) | (simp only [nrm, strm, by8] at * <;> omega) | (simp [upd4, cpy4, nrm, strm, by8] at * <;> omega))) | (refine h2 _ ?_ ?_ <;> (repeat' (first | assumption | exact trivial | exact Un_rf | exact hI 4 _ _ _ | exact hI 9 _ _ _ | exact hI 22 _ _ _ | (refine ixr_by8 ?_ ?_) | (refine IV_upd ?_ ?_) | (refine Un_upd rfl ?_) | (refine IV_cpy ?_ (fun _ _ _ _ => trivial)) | (refine Un_cpy rfl ?_) | (apply Un_tr; rotate_left; assumption; rfl) | (refine And.intro ?_ ?_))) <;> (first | rfl | decide | exact Or.inl rfl | exact Or.inr (Or.inl rfl) | exact Or.inr (Or.inr rfl) | (simp only [nrm, strm, by8] at * <;> omega) | (simp [upd4, cpy4, nrm, strm, by8] at * <;> omega))) | (apply h1 <;> (repeat' (first | assumption | exact trivial | exact Un_rf | exact hI 4 _ _ _ | exact hI 9 _ _ _ | exact hI 22 _ _ _ | (refine ixr_by8 ?_ ?_) | (refine IV_upd ?_ ?_) | (refine Un_upd rfl ?_) | (refine IV_cpy ?_ (fun _ _ _ _ => trivial)) | (refine Un_cpy rfl ?_) | (apply Un_tr; rotate_left; assumption; rfl) | (refine And.intro ?_ ?_))) <;> (first | rfl | decide | exact Or.inl rfl | exact Or.inr (Or.inl rfl) | exact Or.inr (Or.inr rfl) | (simp only [nrm, strm, by8] at * <;> omega) | (simp [upd4, cpy4, nrm, strm, by8] at * <;> omega))) | (apply h2 <;> (repeat' (first | assumption | exact trivial | exact Un_rf | exact hI 4 _ _ _ | exact hI 9 _ _ _ | exact hI 22 _ _ _ | (refine ixr_by8 ?_ ?_) | (refine IV_upd ?_ ?_) | (refine Un_upd rfl ?_) | (refine IV_cpy ?_ (fun _ _ _ _ => trivial)) | (refine Un_cpy rfl ?_) | (apply Un_tr; rotate_left; assumption; rfl) | (refine And.intro ?_ ?_))) <;> (first | rfl | decide | exact Or.inl rfl | exact Or.inr (Or.inl rfl) | exact Or.inr (Or.inr rfl) | (simp only [nrm, strm, by8] at * <;> omega) | (simp [upd4, cpy4, nrm, strm, by8] at * <;> omega))) | ((repeat' (first | assumption | exact trivial | exact Un_rf | exact hI 4 _ _ _ | exact hI 9 _ _ _ | exact hI 22 _ _ _ | (refine ixr_by8 ?_ ?_) | (refine IV_upd ?_ ?_) | (refine Un_upd rfl ?_) | (refine IV_cpy ?_ (fun _ _ _ _ => trivial)) | (refine Un_cpy rfl ?_) | (apply Un_tr; rotate_left; assumption; rfl) | (refine And.intro ?_ ?_))) <;> (first | rfl | decide | exact Or.inl rfl | exact Or.inr (Or.inl rfl) | exact Or.inr (Or.inr rfl) | (simp only [nrm, strm, by8] at * <;> omega) | (simp [upd4, cpy4, nrm, strm, by8] at * <;> omega)))
  · intro av σ K kx n pc L st σ' nc ns _ _ h
    exact (h : False).elim
def gt_Stream_isClosed (a : Nat) : Option Nat := match a with
  | _ => none
theorem go_Stream_isClosed : ∀ a v, gt_Stream_isClosed a = some v → StaOK R_Stream a v := by
  intro a v h
  unfold gt_Stream_isClosed at h
  cases h
def pr_Stream_isClosed : List Ent := [(0, 5, 0, 0, 0), (1, 39, 18, 0, 0), (4, 0, 0, 4, 0), (5, 33, 0, 0, 12), (8, 0, 0, 1, 0), (9, 38, 0, 0, 13), (12, 0, 0, 0, 0), (13, 48, 0, 0, 0)]
def sw_Stream_isClosed : List Swt := []
theorem dk_Stream_isClosed : ∀ q ∈ pr_Stream_isClosed, decode b_Stream_isClosed q.1 = .ok (dec sw_Stream_isClosed q) ∧ okE q = true := by decide +kernel
theorem nt_Stream_isClosed : ∀ q ∈ pr_Stream_isClosed, ¬ q.2.1 = 55 := by decide +kernel
def ct_Stream_isClosed (a : Nat) : Option (Nat × Nat × CSp × Nat × Nat) := match a with
  | _ => none
theorem co_Stream_isClosed : ∀ a v, ct_Stream_isClosed a = some v → StcOK R_Stream 0 0 a v := by
  intro a v h
  unfold ct_Stream_isClosed at h
  cases h
/-- Stream_isClosed -/
def sp_Stream_isClosed : CSp := sR (fun q σ K _ => q.1 = 32 ∧ K (some (.inl 0)) σ ∧ K (some (.inl 1)) σ)
set_option maxHeartbeats 4000000 in
set_option maxRecDepth 100000 in
theorem c_Stream_isClosed : Ctr y_Stream_isClosed b_Stream_isClosed 1 (some .boolean) 0 0 0 0 sp_Stream_isClosed := by
  refine ctr_of (FT := ft_Stream) (GT := gt_Stream_isClosed) (CT := ct_Stream_isClosed) (sw := sw_Stream_isClosed) (rt := 1) (pr := pr_Stream_isClosed) (by decide) [] (fun _ _ _ _ _ _ _ _ _ _ _ => False) 20 ⟨fun h => absurd h (by decide), fun _ => rfl, fun h => absurd h (by decide), fun h => absurd h (by decide)⟩ dk_Stream_isClosed fo_Stream go_Stream_isClosed co_Stream_isClosed (fun a k h hk => by unfold gt_Stream_isClosed at h; cases h) (fun q hq h => absurd h (nt_Stream_isClosed q hq)) (fun av σ K kx h => by rw [sR_len h]; decide) ?_ ?_
  · intro av σ K kx hok hSp
    obtain ⟨q0, rfl, hp⟩ := sR_inv hSp
    obtain ⟨k0, e0, i0⟩ := q0
    obtain ⟨h0, h1, h2⟩ := hp
    dsimp only at h0; subst h0
    all_goals (repeat' (first | (with_reducible assumption) | (with_reducible refine IV_upd ?_ ?_) | (with_reducible refine IV_cpy ?_ (fun _ _ _ _ => trivial)) | (refine And.intro ?_ ?_) | (intro _)))
    all_goals first | (first | rfl | decide | exact Or.inl rfl | exact Or.inr (Or.inl rfl) | exact Or.inr (Or.inr rfl) | (simp only [nrm, strm, by8] at * <;> omega) | (simp [upd4, cpy4, nrm, strm, by8] at * <;> omega)) | (exact h1 (by first | assumption | (first | rfl | decide | exact Or.inl rfl | exact Or.inr (Or.inl rfl) | exact Or.inr (Or.inr rfl) | (simp only [nrm, strm, by8] at * <;> omega) | (simp [upd4, cpy4, nrm, strm, by8] at * <;> omega)))) | (exact h2 (by first | assumption | (first | rfl | decide | exact Or.inl rfl | exact Or.inr (Or.inl rfl) | exact Or.inr (Or.inr rfl) | (simp only [nrm, strm, by8] at * <;> omega) | (simp [upd4, cpy4, nrm, strm, by8] at * <;> omega)))) | (exact h1) | (exact h2) | (refine h1 _ ?_ ?_ <;> (repeat' (first | assumption | exact trivial | exact Un_rf | exact hI 4 _ _ _ | exact hI 9 _ _ _ | exact hI 22 _ _ _ | (refine ixr_by8 ?_ ?_) | (refine IV_upd ?_ ?_) | (refine Un_upd rfl ?_) | (refine IV_cpy ?_ (fun _ _ _ _ => trivial)) | (refine Un_cpy rfl ?_) | (apply Un_tr; rotate_left; assumption; rfl) | (refine And.intro ?_ ?_))) <;> (first | rfl | decide | exact Or.inl rfl | exact Or.inr (Or.inl rfl) | exact Or.inr (Or.inr rfl) | (simp only [nrm, strm, by8] at * <;> omega) | (simp [upd4, cpy4, nrm, strm, by8] at * <;> omega))) | (refine h2 _ ?_ ?_ <;> (repeat' (first | assumption | exact trivial | exact Un_rf | exact hI 4 _ _ _ | exact hI 9 _ _ _ | exact hI 22 _ _ _ | (refine ixr_by8 ?_ ?_) | (refine IV_upd ?_ ?_) | (refine Un_upd rfl ?_) | (refine IV_cpy ?_ (fun _ _ _ _ => trivial)) | (refine Un_cpy rfl ?_) | (apply Un_tr; rotate_left; assumption; rfl) | (refine And.intro ?_ ?_))) <;> (first | rfl | decide | exact Or.inl rfl | exact Or.inr (Or.inl rfl) | exact Or.inr (Or.inr rfl) | (simp only [nrm, strm, by8] at * <;> omega) | (simp [upd4, cpy4, nrm, strm, by8] at * <;> omega))) | (apply h1 <;> (repeat' (first | assumption | exact trivial | exact Un_rf | exact hI 4 _ _ _ | exact hI 9 _ _ _ | exact hI 22 _ _ _ | (refine ixr_by8 ?_ ?_) | (refine IV_upd ?_ ?_) | (refine Un_upd rfl ?_) | (refine IV_cpy ?_ (fun _ _ _ _ => trivial)) | (refine Un_cpy rfl ?_) | (apply Un_tr; rotate_left; assumption; rfl) | (refine And.intro ?_ ?_))) <;> (first | rfl | decide | exact Or.inl rfl | exact Or.inr (Or.inl rfl) | exact Or.inr (Or.inr rfl) | (simp only [nrm, strm, by8] at * <;> omega) | (simp [upd4, cpy4, nrm, strm, by8] at * <;> omega))) | (apply h2 <;> (repeat' (first | assumption | exact trivial | exact Un_rf | exact hI 4 _ _ _ | exact hI 9 _ _ _ | exact hI 22 _ _ _ | (refine ixr_by8 ?_ ?_) | (refine IV_upd ?_ ?_) | (refine Un_upd rfl ?_) | (refine IV_cpy ?_ (fun _ _ _ _ => trivial)) | (refine Un_cpy rfl ?_) | (apply Un_tr; rotate_left; assumption; rfl) | (refine And.intro ?_ ?_))) <;> (first | rfl | decide | exact Or.inl rfl | exact Or.inr (Or.inl rfl) | exact Or.inr (Or.inr rfl) | (simp only [nrm, strm, by8] at * <;> omega) | (simp [upd4, cpy4, nrm, strm, by8] at * <;> omega))) | ((repeat' (first | assumption | exact trivial | exact Un_rf | exact hI 4 _ _ _ | exact hI 9 _ _ _ | exact hI 22 _ _ _ | (refine ixr_by8 ?_ ?_) | (refine IV_upd ?_ ?_) | (refine Un_upd rfl ?_) | (refine IV_cpy ?_ (fun _ _ _ _ => trivial)) | (refine Un_cpy rfl ?_) | (apply Un_tr; rotate_left; assumption; rfl) | (refine And.intro ?_ ?_))) <;> (first | rfl | decide | exact Or.inl rfl | exact Or.inr (Or.inl rfl) | exact Or.inr (Or.inr rfl) | (simp only [nrm, strm, by8] at * <;> omega) | (simp [upd4, cpy4, nrm, strm, by8] at * <;> omega)))
  · intro av σ K kx n pc L st σ' nc ns _ _ h
    exact (h : False).elim
def gt_Stream_isLive (a : Nat) : Option Nat := match a with
  | _ => none
theorem go_Stream_isLive : ∀ a v, gt_Stream_isLive a = some v → StaOK R_Stream a v := by
  intro a v h
  unfold gt_Stream_isLive at h
  cases h
def pr_Stream_isLive : List Ent := [(0, 5, 0, 0, 0), (1, 46, 34, 0, 0), (4, 27, 0, 0, 18), (7, 5, 0, 0, 0), (8, 46, 38, 0, 0), (11, 27, 0, 0, 18), (14, 0, 0, 1, 0), (15, 38, 0, 0, 19), (18, 0, 0, 0, 0), (19, 48, 0, 0, 0)]
def sw_Stream_isLive : List Swt := []
theorem dk_Stream_isLive : ∀ q ∈ pr_Stream_isLive, decode b_Stream_isLive q.1 = .ok (dec sw_Stream_isLive q) ∧ okE q = true := by decide +kernel
theorem nt_Stream_isLive : ∀ q ∈ pr_Stream_isLive, ¬ q.2.1 = 55 := by decide +kernel
def ct_Stream_isLive (a : Nat) : Option (Nat × Nat × CSp × Nat × Nat) := match a with
  | 34 => some (1, 6, sp_Stream_isIdle, 0, 0)
  | 38 => some (1, 6, sp_Stream_isClosed, 0, 0)
  | _ => none
theorem co_Stream_isLive : ∀ a v, ct_Stream_isLive a = some v → StcOK R_Stream 1 20 a v := by
  intro a v h
  unfold ct_Stream_isLive at h
  split at h
  · cases h; exact ⟨y_Stream_isIdle, b_Stream_isIdle, 1, (some .boolean), 0, 0, 0, c_Stream_isIdle, by decide, by decide +kernel, by decide +kernel, by decide +kernel, Or.inl ⟨rfl, by decide, by decide +kernel, by decide +kernel, _, _, rfl, by decide +kernel⟩⟩
  · cases h; exact ⟨y_Stream_isClosed, b_Stream_isClosed, 1, (some .boolean), 0, 0, 0, c_Stream_isClosed, by decide, by decide +kernel, by decide +kernel, by decide +kernel, Or.inl ⟨rfl, by decide, by decide +kernel, by decide +kernel, _, _, rfl, by decide +kernel⟩⟩
  · cases h
/-- Stream_isLive -/
def sp_Stream_isLive : CSp := sR (fun q σ K _ => q.1 = 32 ∧ K (some (.inl 0)) σ ∧ K (some (.inl 1)) σ)
set_option maxHeartbeats 4000000 in
set_option maxRecDepth 100000 in
theorem c_Stream_isLive : Ctr y_Stream_isLive b_Stream_isLive 1 (some .boolean) 1 20 0 0 sp_Stream_isLive := by
  refine ctr_of (FT := ft_Stream) (GT := gt_Stream_isLive) (CT := ct_Stream_isLive) (sw := sw_Stream_isLive) (rt := 1) (pr := pr_Stream_isLive) (by decide) [] (fun _ _ _ _ _ _ _ _ _ _ _ => False) 30 ⟨fun h => absurd h (by decide), fun _ => rfl, fun h => absurd h (by decide), fun h => absurd h (by decide)⟩ dk_Stream_isLive fo_Stream go_Stream_isLive co_Stream_isLive (fun a k h hk => by unfold gt_Stream_isLive at h; cases h) (fun q hq h => absurd h (nt_Stream_isLive q hq)) (fun av σ K kx h => by rw [sR_len h]; decide) ?_ ?_
  · intro av σ K kx hok hSp
    obtain ⟨q0, rfl, hp⟩ := sR_inv hSp
    obtain ⟨k0, e0, i0⟩ := q0
    obtain ⟨h0, h1, h2⟩ := hp
    dsimp only at h0; subst h0
    all_goals (repeat' (first | (with_reducible assumption) | (with_reducible refine IV_upd ?_ ?_) | (with_reducible refine IV_cpy ?_ (fun _ _ _ _ => trivial)) | (refine And.intro ?_ ?_) | (intro _)))
    all_goals first | (first | rfl | decide | exact Or.inl rfl | exact Or.inr (Or.inl rfl) | exact Or.inr (Or.inr rfl) | (simp only [nrm, strm, by8] at * <;> omega) | (simp [upd4, cpy4, nrm, strm, by8] at * <;> omega)) | (exact h1 (by first | assumption | (first | rfl | decide | exact Or.inl rfl | exact Or.inr (Or.inl rfl) | exact Or.inr (Or.inr rfl) | (simp only [nrm, strm, by8] at * <;> omega) | (simp [upd4, cpy4, nrm, strm, by8] at * <;> omega)))) | (exact h2 (by first | assumption | (first | rfl | decide | exact Or.inl rfl | exact Or.inr (Or.inl rfl) | exact Or.inr (Or.inr rfl) | (simp only [nrm, strm, by8] at * <;> omega) | (simp [upd4, cpy4, nrm, strm, by8] at * <;> omega)))) | (exact h1) | (exact h2) | (refine h1 _ ?_ ?_ <;> (repeat' (first | assumption | exact trivial | exact Un_rf | exact hI 4 _ _ _ | exact hI 9 _ _ _ | exact hI 22 _ _ _ | (refine ixr_by8 ?_ ?_) | (refine IV_upd ?_ ?_) | (refine Un_upd rfl ?_) | (refine IV_cpy ?_ (fun _ _ _ _ => trivial)) | (refine Un_cpy rfl ?_) | (apply Un_tr; rotate_left; assumption; rfl) | (refine And.intro ?_ ?_))) <;> (first | rfl | decide | exact Or.inl rfl | exact Or.inr (Or.inl rfl) | exact Or.inr (Or.inr rfl) | (simp only [nrm, strm, by8] at * <;> omega) | (simp [upd4, cpy4, nrm, strm, by8] at * <;> omega))) | (refine h2 _ ?_ ?_ <;> (repeat' (first | assumption | exact trivial | exact Un_rf | exact hI 4 _ _ _ | exact hI 9 _ _ _ | exact hI 22 _ _ _ | (refine ixr_by8 ?_ ?_) | (refine IV_upd ?_ ?_) | (refine Un_upd rfl ?_) | (refine IV_cpy ?_ (fun _ _ _ _ => trivial)) | (refine Un_cpy rfl ?_) | (apply Un_tr; rotate_left; assumption; rfl) | (refine And.intro ?_ ?_))) <;> (first | rfl | decide | exact Or.inl rfl | exact Or.inr (Or.inl rfl) | exact Or.inr (Or.inr rfl) | (simp only [nrm, strm, by8] at * <;> omega) | (simp [upd4, cpy4, nrm, strm, by8] at * <;> omega))) | (apply h1 <;> (repeat' (first | assumption | exact trivial | exact Un_rf | exact hI 4 _ _ _ | exact hI 9 _ _ _ | exact hI 22 _ _ _ | (refine ixr_by8 ?_ ?_) | (refine IV_upd ?_ ?_) | (refine Un_upd rfl ?_) | (refine IV_cpy ?_ (fun _ _ _ _ => trivial)) | (refine Un_cpy rfl ?_) | (apply Un_tr; rotate_left; assumption; rfl) | (refine And.intro ?_ ?_))) <;> (first | rfl | decide | exact Or.inl rfl | exact Or.inr (Or.inl rfl) | exact Or.inr (Or.inr rfl) | (simp only [nrm, strm, by8] at * <;> omega) | (simp [upd4, cpy4, nrm, strm, by8] at * <;> omega))) | (apply h2 <;> (repeat' (first | assumption | exact trivial | exact Un_rf | exact hI 4 _ _ _ | exact hI 9 _ _ _ | exact hI 22 _ _ _ | (refine ixr_by8 ?_ ?_) | (refine IV_upd ?_ ?_) | (refine Un_upd rfl ?_) | (refine IV_cpy ?_ (fun _ _ _ _ => trivial)) | (refine Un_cpy rfl ?_) | (apply Un_tr; rotate_left; assumption; rfl) | (refine And.intro ?_ ?_))) <;> (first | rfl | decide | exact Or.inl rfl | exact Or.inr (Or.inl rfl) | exact Or.inr (Or.inr rfl) | (simp only [nrm, strm, by8] at * <;> omega) | (simp [upd4, cpy4, nrm, strm, by8] at * <;> omega))) | ((repeat' (first | assumption | exact trivial | exact Un_rf | exact hI 4 _ _ _ | exact hI 9 _ _ _ | exact hI 22 _ _ _ | (refine ixr_by8 ?_ ?_) | (refine IV_upd ?_ ?_) | (refine Un_upd rfl ?_) | (refine IV_cpy ?_ (fun _ _ _ _ => trivial)) | (refine Un_cpy rfl ?_) | (apply Un_tr; rotate_left; assumption; rfl) | (refine And.intro ?_ ?_))) <;> (first | rfl | decide | exact Or.inl rfl | exact Or.inr (Or.inl rfl) | exact Or.inr (Or.inr rfl) | (simp only [nrm, strm, by8] at * <;> omega) | (simp [upd4, cpy4, nrm, strm, by8] at * <;> omega)))
  · intro av σ K kx n pc L st σ' nc ns _ _ h
    exact (h : False).elim
def gt_Stream_maySend (a : Nat) : Option Nat := match a with
  | _ => none
theorem go_Stream_maySend : ∀ a v, gt_Stream_maySend a = some v → StaOK R_Stream a v := by
  intro a v h
  unfold gt_Stream_maySend at h
  cases h
def pr_Stream_maySend : List Ent := [(0, 5, 0, 0, 0), (1, 39, 18, 0, 0), (4, 0, 0, 1, 0), (5, 32, 0, 0, 16), (8, 5, 0, 0, 0), (9, 39, 18, 0, 0), (12, 0, 0, 3, 0), (13, 33, 0, 0, 20), (16, 0, 0, 1, 0), (17, 38, 0, 0, 21), (20, 0, 0, 0, 0), (21, 48, 0, 0, 0)]
def sw_Stream_maySend : List Swt := []
theorem dk_Stream_maySend : ∀ q ∈ pr_Stream_maySend, decode b_Stream_maySend q.1 = .ok (dec sw_Stream_maySend q) ∧ okE q = true := by decide +kernel
theorem nt_Stream_maySend : ∀ q ∈ pr_Stream_maySend, ¬ q.2.1 = 55 := by decide +kernel
def ct_Stream_maySend (a : Nat) : Option (Nat × Nat × CSp × Nat × Nat) := match a with
  | _ => none
theorem co_Stream_maySend : ∀ a v, ct_Stream_maySend a = some v → StcOK R_Stream 0 0 a v := by
  intro a v h
  unfold ct_Stream_maySend at h
  cases h
/-- Stream_maySend -/
def sp_Stream_maySend : CSp := sR (fun q σ K _ => q.1 = 32 ∧ K (some (.inl 0)) σ ∧ (¬ nrm (σ 32 q.2.1 q.2.2 1) = 0 → K (some (.inl 1)) σ))
set_option maxHeartbeats 4000000 in
set_option maxRecDepth 100000 in
theorem c_Stream_maySend : Ctr y_Stream_maySend b_Stream_maySend 1 (some .boolean) 0 0 0 0 sp_Stream_maySend := by
  refine ctr_of (FT := ft_Stream) (GT := gt_Stream_maySend) (CT := ct_Stream_maySend) (sw := sw_Stream_maySend) (rt := 1) (pr := pr_Stream_maySend) (by decide) [] (fun _ _ _ _ _ _ _ _ _ _ _ => False) 30 ⟨fun h => absurd h (by decide), fun _ => rfl, fun h => absurd h (by decide), fun h => absurd h (by decide)⟩ dk_Stream_maySend fo_Stream go_Stream_maySend co_Stream_maySend (fun a k h hk => by unfold gt_Stream_maySend at h; cases h) (fun q hq h => absurd h (nt_Stream_maySend q hq)) (fun av σ K kx h => by rw [sR_len h]; decide) ?_ ?_
  · intro av σ K kx hok hSp
    obtain ⟨q0, rfl, hp⟩ := sR_inv hSp
    obtain ⟨k0, e0, i0⟩ := q0
    obtain ⟨h0, h1, h2⟩ := hp
    dsimp only at h0; subst h0
    all_goals (repeat' (first | (with_reducible assumption) | (with_reducible refine IV_upd ?_ ?_) | (with_reducible refine IV_cpy ?_ (fun _ _ _ _ => trivial)) | (refine And.intro ?_ ?_) | (intro _)))
    all_goals first | (first | rfl | decide | exact Or.inl rfl | exact Or.inr (Or.inl rfl) | exact Or.inr (Or.inr rfl) | (simp only [nrm, strm, by8] at * <;> omega) | (simp [upd4, cpy4, nrm, strm, by8] at * <;> omega)) | (exact h1 (by first | assumption | (first | rfl | decide | exact Or.inl rfl | exact Or.inr (Or.inl rfl) | exact Or.inr (Or.inr rfl) | (simp only [nrm, strm, by8] at * <;> omega) | (simp [upd4, cpy4, nrm, strm, by8] at * <;> omega)))) | (exact h2 (by first | assumption | (first | rfl | decide | exact Or.inl rfl | exact Or.inr (Or.inl rfl) | exact Or.inr (Or.inr rfl) | (simp only [nrm, strm, by8] at * <;> omega) | (simp [upd4, cpy4, nrm, strm, by8] at * <;> omega)))) | (exact h1) | (exact h2) | (refine h1 _ ?_ ?_ <;> (repeat' (first | assumption | exact trivial | exact Un_rf | exact hI 4 _ _ _ | exact hI 9 _ _ _ | exact hI 22 _ _ _ | (refine ixr_by8 ?_ ?_) | (refine IV_upd ?_ ?_) | (refine Un_upd rfl ?_) | (refine IV_cpy ?_ (fun _ _ _ _ => trivial)) | (refine Un_cpy rfl ?_) | (apply Un_tr; rotate_left; assumption; rfl) | (refine And.intro ?_ ?_))) <;> (first | rfl | decide | exact Or.inl rfl | exact Or.inr (Or.inl rfl) | exact Or.inr (Or.inr rfl) | (simp only [nrm, strm, by8] at * <;> omega) | (simp [upd4, cpy4, nrm, strm, by8] at * <;> omega))) | (refine h2 _ ?_ ?_ <;> (repeat' (first | assumption | exact trivial | exact Un_rf | exact hI 4 _ _ _ | exact hI 9 _ _ _ | exact hI 22 _ _ _ | (refine ixr_by8 ?_ ?_) | (refine IV_upd ?_ ?_) | (refine Un_upd rfl ?_) | (refine IV_cpy ?_ (fun _ _ _ _ => trivial)) | (refine Un_cpy rfl ?_) | (apply Un_tr; rotate_left; assumption; rfl) | (refine And.intro ?_ ?_))) <;> (first | rfl | decide | exact Or.inl rfl | exact Or.inr (Or.inl rfl) | exact Or.inr (Or.inr rfl) | (simp only [nrm, strm, by8] at * <;> omega) | (simp [upd4, cpy4, nrm, strm, by8] at * <;> omega))) | (apply h1 <;> (repeat' (first | assumption | exact trivial | exact Un_rf | exact hI 4 _ _ _ | exact hI 9 _ _ _ | exact hI 22 _ _ _ | (refine ixr_by8 ?_ ?_) | (refine IV_upd ?_ ?_) | (refine Un_upd rfl ?_) | (refine IV_cpy ?_ (fun _ _ _ _ => trivial)) | (refine Un_cpy rfl ?_) | (apply Un_tr; rotate_left; assumption; rfl) | (refine And.intro ?_ ?_))) <;> (first | rfl | decide | exact Or.inl rfl | exact Or.inr (Or.inl rfl) | exact Or.inr (Or.inr rfl) | (simp only [nrm, strm, by8] at * <;> omega) | (simp [upd4, cpy4, nrm, strm, by8] at * <;> omega))) | (apply h2 <;> (repeat' (first | assumption | exact trivial | exact Un_rf | exact hI 4 _ _ _ | exact hI 9 _ _ _ | exact hI 22 _ _ _ | (refine ixr_by8 ?_ ?_) | (refine IV_upd ?_ ?_) | (refine Un_upd rfl ?_) | (refine IV_cpy ?_ (fun _ _ _ _ => trivial)) | (refine Un_cpy rfl ?_) | (apply Un_tr; rotate_left; assumption; rfl) | (refine And.intro ?_ ?_))) <;> (first | rfl | decide | exact Or.inl rfl | exact Or.inr (Or.inl rfl) | exact Or.inr (Or.inr rfl) | (simp only [nrm, strm, by8] at * <;> omega) | (simp [upd4, cpy4, nrm, strm, by8] at * <;> omega))) | ((repeat' (first | assumption | exact trivial | exact Un_rf | exact hI 4 _ _ _ | exact hI 9 _ _ _ | exact hI 22 _ _ _ | (refine ixr_by8 ?_ ?_) | (refine IV_upd ?_ ?_) | (refine Un_upd rfl ?_) | (refine IV_cpy ?_ (fun _ _ _ _ => trivial)) | (refine Un_cpy rfl ?_) | (apply Un_tr; rotate_left; assumption; rfl) | (refine And.intro ?_ ?_))) <;> (first | rfl | decide | exact Or.inl rfl | exact Or.inr (Or.inl rfl) | exact Or.inr (Or.inr rfl) | (simp only [nrm, strm, by8] at * <;> omega) | (simp [upd4, cpy4, nrm, strm, by8] at * <;> omega)))
  · intro av σ K kx n pc L st σ' nc ns _ _ h
    exact (h : False).elim
def gt_Stream_mayHear (a : Nat) : Option Nat := match a with
  | _ => none
theorem go_Stream_mayHear : ∀ a v, gt_Stream_mayHear a = some v → StaOK R_Stream a v := by
  intro a v h
  unfold gt_Stream_mayHear at h
  cases h
def pr_Stream_mayHear : List Ent := [(0, 5, 0, 0, 0), (1, 39, 18, 0, 0), (4, 0, 0, 1, 0), (5, 32, 0, 0, 16), (8, 5, 0, 0, 0), (9, 39, 18, 0, 0), (12, 0, 0, 2, 0), (13, 33, 0, 0, 20), (16, 0, 0, 1, 0), (17, 38, 0, 0, 21), (20, 0, 0, 0, 0), (21, 48, 0, 0, 0)]
def sw_Stream_mayHear : List Swt := []
theorem dk_Stream_mayHear : ∀ q ∈ pr_Stream_mayHear, decode b_Stream_mayHear q.1 = .ok (dec sw_Stream_mayHear q) ∧ okE q = true := by decide +kernel
theorem nt_Stream_mayHear : ∀ q ∈ pr_Stream_mayHear, ¬ q.2.1 = 55 := by decide +kernel
def ct_Stream_mayHear (a : Nat) : Option (Nat × Nat × CSp × Nat × Nat) := match a with
  | _ => none
theorem co_Stream_mayHear : ∀ a v, ct_Stream_mayHear a = some v → StcOK R_Stream 0 0 a v := by
  intro a v h
  unfold ct_Stream_mayHear at h
  cases h
/-- Stream_mayHear -/
def sp_Stream_mayHear : CSp := sR (fun q σ K _ => q.1 = 32 ∧ K (some (.inl 0)) σ ∧ K (some (.inl 1)) σ)
set_option maxHeartbeats 4000000 in
set_option maxRecDepth 100000 in
theorem c_Stream_mayHear : Ctr y_Stream_mayHear b_Stream_mayHear 1 (some .boolean) 0 0 0 0 sp_Stream_mayHear := by
  refine ctr_of (FT := ft_Stream) (GT := gt_Stream_mayHear) (CT := ct_Stream_mayHear) (sw := sw_Stream_mayHear) (rt := 1) (pr := pr_Stream_mayHear) (by decide) [] (fun _ _ _ _ _ _ _ _ _ _ _ => False) 30 ⟨fun h => absurd h (by decide), fun _ => rfl, fun h => absurd h (by decide), fun h => absurd h (by decide)⟩ dk_Stream_mayHear fo_Stream go_Stream_mayHear co_Stream_mayHear (fun a k h hk => by unfold gt_Stream_mayHear at h; cases h) (fun q hq h => absurd h (nt_Stream_mayHear q hq)) (fun av σ K kx h => by rw [sR_len h]; decide) ?_ ?_
  · intro av σ K kx hok hSp
    obtain ⟨q0, rfl, hp⟩ := sR_inv hSp
    obtain ⟨k0, e0, i0⟩ := q0
    obtain ⟨h0, h1, h2⟩ := hp
    dsimp only at h0; subst h0
    all_goals (repeat' (first | (with_reducible assumption) | (with_reducible refine IV_upd ?_ ?_) | (with_reducible refine IV_cpy ?_ (fun _ _ _ _ => trivial)) | (refine And.intro ?_ ?_) | (intro _)))
    all_goals first | (first | rfl | decide | exact Or.inl rfl | exact Or.inr (Or.inl rfl) | exact Or.inr (Or.inr rfl) | (simp only [nrm, strm, by8] at * <;> omega) | (simp [upd4, cpy4, nrm, strm, by8] at * <;> omega)) | (exact h1 (by first | assumption | (first | rfl | decide | exact Or.inl rfl | exact Or.inr (Or.inl rfl) | exact Or.inr (Or.inr rfl) | (simp only [nrm, strm, by8] at * <;> omega) | (simp [upd4, cpy4, nrm, strm, by8] at * <;> omega)))) | (exact h2 (by first | assumption | (first | rfl | decide | exact Or.inl rfl | exact Or.inr (Or.inl rfl) | exact Or.inr (Or.inr rfl) | (simp only [nrm, strm, by8] at * <;> omega) | (simp [upd4, cpy4, nrm, strm, by8] at * <;> omega)))) | (exact h1) | (exact h2) | (refine h1 _ ?_ ?_ <;> (repeat' (first | assumption | exact trivial | exact Un_rf | exact hI 4 _ _ _ | exact hI 9 _ _ _ | exact hI 22 _ _ _ | (refine ixr_by8 ?_ ?_) | (refine IV_upd ?_ ?_) | (refine Un_upd rfl ?_) | (refine IV_cpy ?_ (fun _ _ _ _ => trivial)) | (refine Un_cpy rfl ?_) | (apply Un_tr; rotate_left; assumption; rfl) | (refine And.intro ?_ ?_))) <;> (first | rfl | decide | exact Or.inl rfl | exact Or.inr (Or.inl rfl) | exact Or.inr (Or.inr rfl) | (simp only [nrm, strm, by8] at * <;> omega) | (simp [upd4, cpy4, nrm, strm, by8] at * <;> omega))) | (refine h2 _ ?_ ?_ <;> (repeat' (first | assumption | exact trivial | exact Un_rf | exact hI 4 _ _ _ | exact hI 9 _ _ _ | exact hI 22 _ _ _ | (refine ixr_by8 ?_ ?_) | (refine IV_upd ?_ ?_) | (refine Un_upd rfl ?_) | (refine IV_cpy ?_ (fun _ _ _ _ => trivial)) | (refine Un_cpy rfl ?_) | (apply Un_tr; rotate_left; assumption; rfl) | (refine And.intro ?_ ?_))) <;> (first | rfl | decide | exact Or.inl rfl | exact Or.inr (Or.inl rfl) | exact Or.inr (Or.inr rfl) | (simp only [nrm, strm, by8] at * <;> omega) | (simp [upd4, cpy4, nrm, strm, by8] at * <;> omega))) | (apply h1 <;> (repeat' (first | assumption | exact trivial | exact Un_rf | exact hI 4 _ _ _ | exact hI 9 _ _ _ | exact hI 22 _ _ _ | (refine ixr_by8 ?_ ?_) | (refine IV_upd ?_ ?_) | (refine Un_upd rfl ?_) | (refine IV_cpy ?_ (fun _ _ _ _ => trivial)) | (refine Un_cpy rfl ?_) | (apply Un_tr; rotate_left; assumption; rfl) | (refine And.intro ?_ ?_))) <;> (first | rfl | decide | exact Or.inl rfl | exact Or.inr (Or.inl rfl) | exact Or.inr (Or.inr rfl) | (simp only [nrm, strm, by8] at * <;> omega) | (simp [upd4, cpy4, nrm, strm, by8] at * <;> omega))) | (apply h2 <;> (repeat' (first | assumption | exact trivial | exact Un_rf | exact hI 4 _ _ _ | exact hI 9 _ _ _ | exact hI 22 _ _ _ | (refine ixr_by8 ?_ ?_) | (refine IV_upd ?_ ?_) | (refine Un_upd rfl ?_) | (refine IV_cpy ?_ (fun _ _ _ _ => trivial)) | (refine Un_cpy rfl ?_) | (apply Un_tr; rotate_left; assumption; rfl) | (refine And.intro ?_ ?_))) <;> (first | rfl | decide | exact Or.inl rfl | exact Or.inr (Or.inl rfl) | exact Or.inr (Or.inr rfl) | (simp only [nrm, strm, by8] at * <;> omega) | (simp [upd4, cpy4, nrm, strm, by8] at * <;> omega))) | ((repeat' (first | assumption | exact trivial | exact Un_rf | exact hI 4 _ _ _ | exact hI 9 _ _ _ | exact hI 22 _ _ _ | (refine ixr_by8 ?_ ?_) | (refine IV_upd ?_ ?_) | (refine Un_upd rfl ?_) | (refine IV_cpy ?_ (fun _ _ _ _ => trivial)) | (refine Un_cpy rfl ?_) | (apply Un_tr; rotate_left; assumption; rfl) | (refine And.intro ?_ ?_))) <;> (first | rfl | decide | exact Or.inl rfl | exact Or.inr (Or.inl rfl) | exact Or.inr (Or.inr rfl) | (simp only [nrm, strm, by8] at * <;> omega) | (simp [upd4, cpy4, nrm, strm, by8] at * <;> omega)))
  · intro av σ K kx n pc L st σ' nc ns _ _ h
    exact (h : False).elim
def gt_Stream_close (a : Nat) : Option Nat := match a with
  | _ => none
theorem go_Stream_close : ∀ a v, gt_Stream_close a = some v → StaOK R_Stream a v := by
  intro a v h
  unfold gt_Stream_close at h
  cases h
def pr_Stream_close : List Ent := [(0, 5, 0, 0, 0), (1, 0, 0, 4, 0), (2, 40, 18, 0, 0), (5, 49, 0, 0, 0)]
def sw_Stream_close : List Swt := []
theorem dk_Stream_close : ∀ q ∈ pr_Stream_close, decode b_Stream_close q.1 = .ok (dec sw_Stream_close q) ∧ okE q = true := by decide +kernel
theorem nt_Stream_close : ∀ q ∈ pr_Stream_close, ¬ q.2.1 = 55 := by decide +kernel
def ct_Stream_close (a : Nat) : Option (Nat × Nat × CSp × Nat × Nat) := match a with
  | _ => none
theorem co_Stream_close : ∀ a v, ct_Stream_close a = some v → StcOK R_Stream 0 0 a v := by
  intro a v h
  unfold ct_Stream_close at h
  cases h
/-- Stream_close -/
def sp_Stream_close : CSp := sR (fun q σ K _ => q.1 = 32 ∧ IV σ ∧ ∀ σ', IV σ' → Un [32] σ σ' → K none σ')
set_option maxHeartbeats 4000000 in
set_option maxRecDepth 100000 in
theorem c_Stream_close : Ctr y_Stream_close b_Stream_close 1 none 0 0 0 0 sp_Stream_close := by
  refine ctr_of (FT := ft_Stream) (GT := gt_Stream_close) (CT := ct_Stream_close) (sw := sw_Stream_close) (rt := 2) (pr := pr_Stream_close) (by decide) [] (fun _ _ _ _ _ _ _ _ _ _ _ => False) 20 ⟨fun h => absurd h (by decide), fun h => absurd h (by decide), fun _ => rfl, fun h => absurd h (by decide)⟩ dk_Stream_close fo_Stream go_Stream_close co_Stream_close (fun a k h hk => by unfold gt_Stream_close at h; cases h) (fun q hq h => absurd h (nt_Stream_close q hq)) (fun av σ K kx h => by rw [sR_len h]; decide) ?_ ?_
  · intro av σ K kx hok hSp
    obtain ⟨q0, rfl, hp⟩ := sR_inv hSp
    obtain ⟨k0, e0, i0⟩ := q0
    obtain ⟨h0, hI, h2⟩ := hp
    dsimp only at h0; subst h0
    all_goals (repeat' (first | (with_reducible assumption) | (with_reducible refine IV_upd ?_ ?_) | (with_reducible refine IV_cpy ?_ (fun _ _ _ _ => trivial)) | (refine And.intro ?_ ?_) | (intro _)))
    all_goals first | (first | rfl | decide | exact Or.inl rfl | exact Or.inr (Or.inl rfl) | exact Or.inr (Or.inr rfl) | (simp only [nrm, strm, by8] at * <;> omega) | (simp [upd4, cpy4, nrm, strm, by8] at * <;> omega)) | (exact h2) | (refine h2 _ ?_ ?_ <;> (repeat' (first | assumption | exact trivial | exact Un_rf | exact hI 4 _ _ _ | exact hI 9 _ _ _ | exact hI 22 _ _ _ | (refine ixr_by8 ?_ ?_) | (refine IV_upd ?_ ?_) | (refine Un_upd rfl ?_) | (refine IV_cpy ?_ (fun _ _ _ _ => trivial)) | (refine Un_cpy rfl ?_) | (apply Un_tr; rotate_left; assumption; rfl) | (refine And.intro ?_ ?_))) <;> (first | rfl | decide | exact Or.inl rfl | exact Or.inr (Or.inl rfl) | exact Or.inr (Or.inr rfl) | (simp only [nrm, strm, by8] at * <;> omega) | (simp [upd4, cpy4, nrm, strm, by8] at * <;> omega))) | (apply h2 <;> (repeat' (first | assumption | exact trivial | exact Un_rf | exact hI 4 _ _ _ | exact hI 9 _ _ _ | exact hI 22 _ _ _ | (refine ixr_by8 ?_ ?_) | (refine IV_upd ?_ ?_) | (refine Un_upd rfl ?_) | (refine IV_cpy ?_ (fun _ _ _ _ => trivial)) | (refine Un_cpy rfl ?_) | (apply Un_tr; rotate_left; assumption; rfl) | (refine And.intro ?_ ?_))) <;> (first | rfl | decide | exact Or.inl rfl | exact Or.inr (Or.inl rfl) | exact Or.inr (Or.inr rfl) | (simp only [nrm, strm, by8] at * <;> omega) | (simp [upd4, cpy4, nrm, strm, by8] at * <;> omega))) | ((repeat' (first | assumption | exact trivial | exact Un_rf | exact hI 4 _ _ _ | exact hI 9 _ _ _ | exact hI 22 _ _ _ | (refine ixr_by8 ?_ ?_) | (refine IV_upd ?_ ?_) | (refine Un_upd rfl ?_) | (refine IV_cpy ?_ (fun _ _ _ _ => trivial)) | (refine Un_cpy rfl ?_) | (apply Un_tr; rotate_left; assumption; rfl) | (refine And.intro ?_ ?_))) <;> (first | rfl | decide | exact Or.inl rfl | exact Or.inr (Or.inl rfl) | exact Or.inr (Or.inr rfl) | (simp only [nrm, strm, by8] at * <;> omega) | (simp [upd4, cpy4, nrm, strm, by8] at * <;> omega)))
  · intro av σ K kx n pc L st σ' nc ns _ _ h
    exact (h : False).elim
def gt_Stream_sendLast (a : Nat) : Option Nat := match a with
  | _ => none
theorem go_Stream_sendLast : ∀ a v, gt_Stream_sendLast a = some v → StaOK R_Stream a v := by
  intro a v h
  unfold gt_Stream_sendLast at h
  cases h
def pr_Stream_sendLast : List Ent := [(0, 5, 0, 0, 0), (1, 5, 0, 0, 0), (2, 39, 18, 0, 0), (5, 0, 0, 1, 0), (6, 33, 0, 0, 13), (9, 0, 0, 2, 0), (10, 38, 0, 0, 14), (13, 0, 0, 4, 0), (14, 40, 18, 0, 0), (17, 49, 0, 0, 0)]
def sw_Stream_sendLast : List Swt := []
theorem dk_Stream_sendLast : ∀ q ∈ pr_Stream_sendLast, decode b_Stream_sendLast q.1 = .ok (dec sw_Stream_sendLast q) ∧ okE q = true := by decide +kernel
theorem nt_Stream_sendLast : ∀ q ∈ pr_Stream_sendLast, ¬ q.2.1 = 55 := by decide +kernel
def ct_Stream_sendLast (a : Nat) : Option (Nat × Nat × CSp × Nat × Nat) := match a with
  | _ => none
theorem co_Stream_sendLast : ∀ a v, ct_Stream_sendLast a = some v → StcOK R_Stream 0 0 a v := by
  intro a v h
  unfold ct_Stream_sendLast at h
  cases h
/-- Stream_sendLast -/
def sp_Stream_sendLast : CSp := sR (fun q σ K _ => q.1 = 32 ∧ IV σ ∧ ∀ σ', IV σ' → Un [32] σ σ' → K none σ')
set_option maxHeartbeats 4000000 in
set_option maxRecDepth 100000 in
theorem c_Stream_sendLast : Ctr y_Stream_sendLast b_Stream_sendLast 1 none 0 0 0 0 sp_Stream_sendLast := by
  refine ctr_of (FT := ft_Stream) (GT := gt_Stream_sendLast) (CT := ct_Stream_sendLast) (sw := sw_Stream_sendLast) (rt := 2) (pr := pr_Stream_sendLast) (by decide) [] (fun _ _ _ _ _ _ _ _ _ _ _ => False) 30 ⟨fun h => absurd h (by decide), fun h => absurd h (by decide), fun _ => rfl, fun h => absurd h (by decide)⟩ dk_Stream_sendLast fo_Stream go_Stream_sendLast co_Stream_sendLast (fun a k h hk => by unfold gt_Stream_sendLast at h; cases h) (fun q hq h => absurd h (nt_Stream_sendLast q hq)) (fun av σ K kx h => by rw [sR_len h]; decide) ?_ ?_
  · intro av σ K kx hok hSp
    obtain ⟨q0, rfl, hp⟩ := sR_inv hSp
    obtain ⟨k0, e0, i0⟩ := q0
    obtain ⟨h0, hI, h2⟩ := hp
    dsimp only at h0; subst h0
    all_goals (repeat' (first | (with_reducible assumption) | (with_reducible refine IV_upd ?_ ?_) | (with_reducible refine IV_cpy ?_ (fun _ _ _ _ => trivial)) | (refine And.intro ?_ ?_) | (intro _)))
    all_goals first | (first | rfl | decide | exact Or.inl rfl | exact Or.inr (Or.inl rfl) | exact Or.inr (Or.inr rfl) | (simp only [nrm, strm, by8] at * <;> omega) | (simp [upd4, cpy4, nrm, strm, by8] at * <;> omega)) | (exact h2) | (refine h2 _ ?_ ?_ <;> (repeat' (first | assumption | exact trivial | exact Un_rf | exact hI 4 _ _ _ | exact hI 9 _ _ _ | exact hI 22 _ _ _ | (refine ixr_by8 ?_ ?_) | (refine IV_upd ?_ ?_) | (refine Un_upd rfl ?_) | (refine IV_cpy ?_ (fun _ _ _ _ => trivial)) | (refine Un_cpy rfl ?_) | (apply Un_tr; rotate_left; assumption; rfl) | (refine And.intro ?_ ?_))) <;> (first | rfl | decide | exact Or.inl rfl | exact Or.inr (Or.inl rfl) | exact Or.inr (Or.inr rfl) | (simp only [nrm, strm, by8] at * <;> omega) | (simp [upd4, cpy4, nrm, strm, by8] at * <;> omega))) | (apply h2 <;> (repeat' (first | assumption | exact trivial | exact Un_rf | exact hI 4 _ _ _ | exact hI 9 _ _ _ | exact hI 22 _ _ _ | (refine ixr_by8 ?_ ?_) | (refine IV_upd ?_ ?_) | (refine Un_upd rfl ?_) | (refine IV_cpy ?_ (fun _ _ _ _ => trivial)) | (refine Un_cpy rfl ?_) | (apply Un_tr; rotate_left; assumption; rfl) | (refine And.intro ?_ ?_))) <;> (first | rfl | decide | exact Or.inl rfl | exact Or.inr (Or.inl rfl) | exact Or.inr (Or.inr rfl) | (simp only [nrm, strm, by8] at * <;> omega) | (simp [upd4, cpy4, nrm, strm, by8] at * <;> omega))) | ((repeat' (first | assumption | exact trivial | exact Un_rf | exact hI 4 _ _ _ | exact hI 9 _ _ _ | exact hI 22 _ _ _ | (refine ixr_by8 ?_ ?_) | (refine IV_upd ?_ ?_) | (refine Un_upd rfl ?_) | (refine IV_cpy ?_ (fun _ _ _ _ => trivial)) | (refine Un_cpy rfl ?_) | (apply Un_tr; rotate_left; assumption; rfl) | (refine And.intro ?_ ?_))) <;> (first | rfl | decide | exact Or.inl rfl | exact Or.inr (Or.inl rfl) | exact Or.inr (Or.inr rfl) | (simp only [nrm, strm, by8] at * <;> omega) | (simp [upd4, cpy4, nrm, strm, by8] at * <;> omega)))
  · intro av σ K kx n pc L st σ' nc ns _ _ h
    exact (h : False).elim
def gt_Stream_hearLast (a : Nat) : Option Nat := match a with
  | _ => none
theorem go_Stream_hearLast : ∀ a v, gt_Stream_hearLast a = some v → StaOK R_Stream a v := by
  intro a v h
  unfold gt_Stream_hearLast at h
  cases h
def pr_Stream_hearLast : List Ent := [(0, 5, 0, 0, 0), (1, 5, 0, 0, 0), (2, 39, 18, 0, 0), (5, 0, 0, 1, 0), (6, 33, 0, 0, 13), (9, 0, 0, 3, 0), (10, 38, 0, 0, 14), (13, 0, 0, 4, 0), (14, 40, 18, 0, 0), (17, 49, 0, 0, 0)]
def sw_Stream_hearLast : List Swt := []
theorem dk_Stream_hearLast : ∀ q ∈ pr_Stream_hearLast, decode b_Stream_hearLast q.1 = .ok (dec sw_Stream_hearLast q) ∧ okE q = true := by decide +kernel
theorem nt_Stream_hearLast : ∀ q ∈ pr_Stream_hearLast, ¬ q.2.1 = 55 := by decide +kernel
def ct_Stream_hearLast (a : Nat) : Option (Nat × Nat × CSp × Nat × Nat) := match a with
  | _ => none
theorem co_Stream_hearLast : ∀ a v, ct_Stream_hearLast a = some v → StcOK R_Stream 0 0 a v := by
  intro a v h
  unfold ct_Stream_hearLast at h
  cases h
/-- Stream_hearLast -/
def sp_Stream_hearLast : CSp := sR (fun q σ K _ => q.1 = 32 ∧ IV σ ∧ ∀ σ', IV σ' → Un [32] σ σ' → K none σ')
set_option maxHeartbeats 4000000 in
set_option maxRecDepth 100000 in
theorem c_Stream_hearLast : Ctr y_Stream_hearLast b_Stream_hearLast 1 none 0 0 0 0 sp_Stream_hearLast := by
  refine ctr_of (FT := ft_Stream) (GT := gt_Stream_hearLast) (CT := ct_Stream_hearLast) (sw := sw_Stream_hearLast) (rt := 2) (pr := pr_Stream_hearLast) (by decide) [] (fun _ _ _ _ _ _ _ _ _ _ _ => False) 30 ⟨fun h => absurd h (by decide), fun h => absurd h (by decide), fun _ => rfl, fun h => absurd h (by decide)⟩ dk_Stream_hearLast fo_Stream go_Stream_hearLast co_Stream_hearLast (fun a k h hk => by unfold gt_Stream_hearLast at h; cases h) (fun q hq h => absurd h (nt_Stream_hearLast q hq)) (fun av σ K kx h => by rw [sR_len h]; decide) ?_ ?_
  · intro av σ K kx hok hSp
    obtain ⟨q0, rfl, hp⟩ := sR_inv hSp
    obtain ⟨k0, e0, i0⟩ := q0
    obtain ⟨h0, hI, h2⟩ := hp
    dsimp only at h0; subst h0
    all_goals (repeat' (first | (with_reducible assumption) | (with_reducible refine IV_upd ?_ ?_) | (with_reducible refine IV_cpy ?_ (fun _ _ _ _ => trivial)) | (refine And.intro ?_ ?_) | (intro _)))
    all_goals first | (first | rfl | decide | exact Or.inl rfl | exact Or.inr (Or.inl rfl) | exact Or.inr (Or.inr rfl) | (simp only [nrm, strm, by8] at * <;> omega) | (simp [upd4, cpy4, nrm, strm, by8] at * <;> omega)) | (exact h2) | (refine h2 _ ?_ ?_ <;> (repeat' (first | assumption | exact trivial | exact Un_rf | exact hI 4 _ _ _ | exact hI 9 _ _ _ | exact hI 22 _ _ _ | (refine ixr_by8 ?_ ?_) | (refine IV_upd ?_ ?_) | (refine Un_upd rfl ?_) | (refine IV_cpy ?_ (fun _ _ _ _ => trivial)) | (refine Un_cpy rfl ?_) | (apply Un_tr; rotate_left; assumption; rfl) | (refine And.intro ?_ ?_))) <;> (first | rfl | decide | exact Or.inl rfl | exact Or.inr (Or.inl rfl) | exact Or.inr (Or.inr rfl) | (simp only [nrm, strm, by8] at * <;> omega) | (simp [upd4, cpy4, nrm, strm, by8] at * <;> omega))) | (apply h2 <;> (repeat' (first | assumption | exact trivial | exact Un_rf | exact hI 4 _ _ _ | exact hI 9 _ _ _ | exact hI 22 _ _ _ | (refine ixr_by8 ?_ ?_) | (refine IV_upd ?_ ?_) | (refine Un_upd rfl ?_) | (refine IV_cpy ?_ (fun _ _ _ _ => trivial)) | (refine Un_cpy rfl ?_) | (apply Un_tr; rotate_left; assumption; rfl) | (refine And.intro ?_ ?_))) <;> (first | rfl | decide | exact Or.inl rfl | exact Or.inr (Or.inl rfl) | exact Or.inr (Or.inr rfl) | (simp only [nrm, strm, by8] at * <;> omega) | (simp [upd4, cpy4, nrm, strm, by8] at * <;> omega))) | ((repeat' (first | assumption | exact trivial | exact Un_rf | exact hI 4 _ _ _ | exact hI 9 _ _ _ | exact hI 22 _ _ _ | (refine ixr_by8 ?_ ?_) | (refine IV_upd ?_ ?_) | (refine Un_upd rfl ?_) | (refine IV_cpy ?_ (fun _ _ _ _ => trivial)) | (refine Un_cpy rfl ?_) | (apply Un_tr; rotate_left; assumption; rfl) | (refine And.intro ?_ ?_))) <;> (first | rfl | decide | exact Or.inl rfl | exact Or.inr (Or.inl rfl) | exact Or.inr (Or.inr rfl) | (simp only [nrm, strm, by8] at * <;> omega) | (simp [upd4, cpy4, nrm, strm, by8] at * <;> omega)))
  · intro av σ K kx n pc L st σ' nc ns _ _ h
    exact (h : False).elim
def gt_Stream_room (a : Nat) : Option Nat := match a with
  | _ => none
theorem go_Stream_room : ∀ a v, gt_Stream_room a = some v → StaOK R_Stream a v := by
  intro a v h
  unfold gt_Stream_room at h
  cases h
def pr_Stream_room : List Ent := [(0, 5, 0, 0, 0), (1, 39, 22, 0, 0), (4, 48, 0, 0, 0)]
def sw_Stream_room : List Swt := []
theorem dk_Stream_room : ∀ q ∈ pr_Stream_room, decode b_Stream_room q.1 = .ok (dec sw_Stream_room q) ∧ okE q = true := by decide +kernel
theorem nt_Stream_room : ∀ q ∈ pr_Stream_room, ¬ q.2.1 = 55 := by decide +kernel
def ct_Stream_room (a : Nat) : Option (Nat × Nat × CSp × Nat × Nat) := match a with
  | _ => none
theorem co_Stream_room : ∀ a v, ct_Stream_room a = some v → StcOK R_Stream 0 0 a v := by
  intro a v h
  unfold ct_Stream_room at h
  cases h
/-- Stream_room -/
def sp_Stream_room : CSp := sR (fun q σ K _ => q.1 = 32 ∧ K (some (.inl (σ 32 q.2.1 q.2.2 2))) σ)
set_option maxHeartbeats 4000000 in
set_option maxRecDepth 100000 in
theorem c_Stream_room : Ctr y_Stream_room b_Stream_room 1 (some .int) 0 0 0 0 sp_Stream_room := by
  refine ctr_of (FT := ft_Stream) (GT := gt_Stream_room) (CT := ct_Stream_room) (sw := sw_Stream_room) (rt := 0) (pr := pr_Stream_room) (by decide) [] (fun _ _ _ _ _ _ _ _ _ _ _ => False) 20 ⟨fun _ => rfl, fun h => absurd h (by decide), fun h => absurd h (by decide), fun h => absurd h (by decide)⟩ dk_Stream_room fo_Stream go_Stream_room co_Stream_room (fun a k h hk => by unfold gt_Stream_room at h; cases h) (fun q hq h => absurd h (nt_Stream_room q hq)) (fun av σ K kx h => by rw [sR_len h]; decide) ?_ ?_
  · intro av σ K kx hok hSp
    obtain ⟨q0, rfl, hp⟩ := sR_inv hSp
    obtain ⟨k0, e0, i0⟩ := q0
    obtain ⟨h0, h1⟩ := hp
    dsimp only at h0; subst h0
    all_goals (repeat' (first | (with_reducible assumption) | (with_reducible refine IV_upd ?_ ?_) | (with_reducible refine IV_cpy ?_ (fun _ _ _ _ => trivial)) | (refine And.intro ?_ ?_) | (intro _)))
    all_goals first | (first | rfl | decide | exact Or.inl rfl | exact Or.inr (Or.inl rfl) | exact Or.inr (Or.inr rfl) | (simp only [nrm, strm, by8] at * <;> omega) | (simp [upd4, cpy4, nrm, strm, by8] at * <;> omega)) | (exact h1 (by first | assumption | (first | rfl | decide | exact Or.inl rfl | exact Or.inr (Or.inl rfl) | exact Or.inr (Or.inr rfl) | (simp only [nrm, strm, by8] at * <;> omega) | (simp [upd4, cpy4, nrm, strm, by8] at * <;> omega)))) | (exact h1) | (refine h1 _ ?_ ?_ <;> (repeat' (first | assumption | exact trivial | exact Un_rf | exact hI 4 _ _ _ | exact hI 9 _ _ _ | exact hI 22 _ _ _ | (refine ixr_by8 ?_ ?_) | (refine IV_upd ?_ ?_) | (refine Un_upd rfl ?_) | (refine IV_cpy ?_ (fun _ _ _ _ => trivial)) | (refine Un_cpy rfl ?_) | (apply Un_tr; rotate_left; assumption; rfl) | (refine And.intro ?_ ?_))) <;> (first | rfl | decide | exact Or.inl rfl | exact Or.inr (Or.inl rfl) | exact Or.inr (Or.inr rfl) | (simp only [nrm, strm, by8] at * <;> omega) | (simp [upd4, cpy4, nrm, strm, by8] at * <;> omega))) | (apply h1 <;> (repeat' (first | assumption | exact trivial | exact Un_rf | exact hI 4 _ _ _ | exact hI 9 _ _ _ | exact hI 22 _ _ _ | (refine ixr_by8 ?_ ?_) | (refine IV_upd ?_ ?_) | (refine Un_upd rfl ?_) | (refine IV_cpy ?_ (fun _ _ _ _ => trivial)) | (refine Un_cpy rfl ?_) | (apply Un_tr; rotate_left; assumption; rfl) | (refine And.intro ?_ ?_))) <;> (first | rfl | decide | exact Or.inl rfl | exact Or.inr (Or.inl rfl) | exact Or.inr (Or.inr rfl) | (simp only [nrm, strm, by8] at * <;> omega) | (simp [upd4, cpy4, nrm, strm, by8] at * <;> omega))) | ((repeat' (first | assumption | exact trivial | exact Un_rf | exact hI 4 _ _ _ | exact hI 9 _ _ _ | exact hI 22 _ _ _ | (refine ixr_by8 ?_ ?_) | (refine IV_upd ?_ ?_) | (refine Un_upd rfl ?_) | (refine IV_cpy ?_ (fun _ _ _ _ => trivial)) | (refine Un_cpy rfl ?_) | (apply Un_tr; rotate_left; assumption; rfl) | (refine And.intro ?_ ?_))) <;> (first | rfl | decide | exact Or.inl rfl | exact Or.inr (Or.inl rfl) | exact Or.inr (Or.inr rfl) | (simp only [nrm, strm, by8] at * <;> omega) | (simp [upd4, cpy4, nrm, strm, by8] at * <;> omega)))
  · intro av σ K kx n pc L st σ' nc ns _ _ h
    exact (h : False).elim
def gt_Stream_growRoom (a : Nat) : Option Nat := match a with
  | _ => none
theorem go_Stream_growRoom : ∀ a v, gt_Stream_growRoom a = some v → StaOK R_Stream a v := by
  intro a v h
  unfold gt_Stream_growRoom at h
  cases h
def pr_Stream_growRoom : List Ent := [(0, 5, 0, 0, 0), (1, 23, 0, 0, 0), (2, 39, 22, 0, 0), (5, 3, 1, 0, 0), (6, 12, 0, 0, 0), (7, 40, 22, 0, 0), (10, 49, 0, 0, 0)]
def sw_Stream_growRoom : List Swt := []
theorem dk_Stream_growRoom : ∀ q ∈ pr_Stream_growRoom, decode b_Stream_growRoom q.1 = .ok (dec sw_Stream_growRoom q) ∧ okE q = true := by decide +kernel
theorem nt_Stream_growRoom : ∀ q ∈ pr_Stream_growRoom, ¬ q.2.1 = 55 := by decide +kernel
def ct_Stream_growRoom (a : Nat) : Option (Nat × Nat × CSp × Nat × Nat) := match a with
  | _ => none
theorem co_Stream_growRoom : ∀ a v, ct_Stream_growRoom a = some v → StcOK R_Stream 0 0 a v := by
  intro a v h
  unfold ct_Stream_growRoom at h
  cases h
/-- Stream_growRoom -/
def sp_Stream_growRoom : CSp := sRI (fun q x σ K _ => q.1 = 32 ∧ IV σ ∧ ∀ σ', IV σ' → Un [32] σ σ' → K none σ')
set_option maxHeartbeats 4000000 in
set_option maxRecDepth 100000 in
theorem c_Stream_growRoom : Ctr y_Stream_growRoom b_Stream_growRoom 2 none 0 0 0 0 sp_Stream_growRoom := by
  refine ctr_of (FT := ft_Stream) (GT := gt_Stream_growRoom) (CT := ct_Stream_growRoom) (sw := sw_Stream_growRoom) (rt := 2) (pr := pr_Stream_growRoom) (by decide) [] (fun _ _ _ _ _ _ _ _ _ _ _ => False) 20 ⟨fun h => absurd h (by decide), fun h => absurd h (by decide), fun _ => rfl, fun h => absurd h (by decide)⟩ dk_Stream_growRoom fo_Stream go_Stream_growRoom co_Stream_growRoom (fun a k h hk => by unfold gt_Stream_growRoom at h; cases h) (fun q hq h => absurd h (nt_Stream_growRoom q hq)) (fun av σ K kx h => by rw [sRI_len h]; decide) ?_ ?_
  · intro av σ K kx hok hSp
    obtain ⟨q0, x0, rfl, hp⟩ := sRI_inv hSp
    obtain ⟨k0, e0, i0⟩ := q0
    obtain ⟨h0, hI, h2⟩ := hp
    dsimp only at h0; subst h0
    all_goals (repeat' (first | (with_reducible assumption) | (with_reducible refine IV_upd ?_ ?_) | (with_reducible refine IV_cpy ?_ (fun _ _ _ _ => trivial)) | (refine And.intro ?_ ?_) | (intro _)))
    all_goals first | (first | rfl | decide | exact Or.inl rfl | exact Or.inr (Or.inl rfl) | exact Or.inr (Or.inr rfl) | (simp only [nrm, strm, by8] at * <;> omega) | (simp [upd4, cpy4, nrm, strm, by8] at * <;> omega)) | (exact h2) | (refine h2 _ ?_ ?_ <;> (repeat' (first | assumption | exact trivial | exact Un_rf | exact hI 4 _ _ _ | exact hI 9 _ _ _ | exact hI 22 _ _ _ | (refine ixr_by8 ?_ ?_) | (refine IV_upd ?_ ?_) | (refine Un_upd rfl ?_) | (refine IV_cpy ?_ (fun _ _ _ _ => trivial)) | (refine Un_cpy rfl ?_) | (apply Un_tr; rotate_left; assumption; rfl) | (refine And.intro ?_ ?_))) <;> (first | rfl | decide | exact Or.inl rfl | exact Or.inr (Or.inl rfl) | exact Or.inr (Or.inr rfl) | (simp only [nrm, strm, by8] at * <;> omega) | (simp [upd4, cpy4, nrm, strm, by8] at * <;> omega))) | (apply h2 <;> (repeat' (first | assumption | exact trivial | exact Un_rf | exact hI 4 _ _ _ | exact hI 9 _ _ _ | exact hI 22 _ _ _ | (refine ixr_by8 ?_ ?_) | (refine IV_upd ?_ ?_) | (refine Un_upd rfl ?_) | (refine IV_cpy ?_ (fun _ _ _ _ => trivial)) | (refine Un_cpy rfl ?_) | (apply Un_tr; rotate_left; assumption; rfl) | (refine And.intro ?_ ?_))) <;> (first | rfl | decide | exact Or.inl rfl | exact Or.inr (Or.inl rfl) | exact Or.inr (Or.inr rfl) | (simp only [nrm, strm, by8] at * <;> omega) | (simp [upd4, cpy4, nrm, strm, by8] at * <;> omega))) | ((repeat' (first | assumption | exact trivial | exact Un_rf | exact hI 4 _ _ _ | exact hI 9 _ _ _ | exact hI 22 _ _ _ | (refine ixr_by8 ?_ ?_) | (refine IV_upd ?_ ?_) | (refine Un_upd rfl ?_) | (refine IV_cpy ?_ (fun _ _ _ _ => trivial)) | (refine Un_cpy rfl ?_) | (apply Un_tr; rotate_left; assumption; rfl) | (refine And.intro ?_ ?_))) <;> (first | rfl | decide | exact Or.inl rfl | exact Or.inr (Or.inl rfl) | exact Or.inr (Or.inr rfl) | (simp only [nrm, strm, by8] at * <;> omega) | (simp [upd4, cpy4, nrm, strm, by8] at * <;> omega)))
  · intro av σ K kx n pc L st σ' nc ns _ _ h
    exact (h : False).elim
def gt_Stream_due (a : Nat) : Option Nat := match a with
  | _ => none
theorem go_Stream_due : ∀ a v, gt_Stream_due a = some v → StaOK R_Stream a v := by
  intro a v h
  unfold gt_Stream_due at h
  cases h
def pr_Stream_due : List Ent := [(0, 5, 0, 0, 0), (1, 39, 25, 0, 0), (4, 48, 0, 0, 0)]
def sw_Stream_due : List Swt := []
theorem dk_Stream_due : ∀ q ∈ pr_Stream_due, decode b_Stream_due q.1 = .ok (dec sw_Stream_due q) ∧ okE q = true := by decide +kernel
theorem nt_Stream_due : ∀ q ∈ pr_Stream_due, ¬ q.2.1 = 55 := by decide +kernel
def ct_Stream_due (a : Nat) : Option (Nat × Nat × CSp × Nat × Nat) := match a with
  | _ => none
theorem co_Stream_due : ∀ a v, ct_Stream_due a = some v → StcOK R_Stream 0 0 a v := by
  intro a v h
  unfold ct_Stream_due at h
  cases h
/-- Stream_due -/
def sp_Stream_due : CSp := sR (fun q σ K _ => q.1 = 32 ∧ K (some (.inl (σ 32 q.2.1 q.2.2 3))) σ)
set_option maxHeartbeats 4000000 in
set_option maxRecDepth 100000 in
theorem c_Stream_due : Ctr y_Stream_due b_Stream_due 1 (some .int) 0 0 0 0 sp_Stream_due := by
  refine ctr_of (FT := ft_Stream) (GT := gt_Stream_due) (CT := ct_Stream_due) (sw := sw_Stream_due) (rt := 0) (pr := pr_Stream_due) (by decide) [] (fun _ _ _ _ _ _ _ _ _ _ _ => False) 20 ⟨fun _ => rfl, fun h => absurd h (by decide), fun h => absurd h (by decide), fun h => absurd h (by decide)⟩ dk_Stream_due fo_Stream go_Stream_due co_Stream_due (fun a k h hk => by unfold gt_Stream_due at h; cases h) (fun q hq h => absurd h (nt_Stream_due q hq)) (fun av σ K kx h => by rw [sR_len h]; decide) ?_ ?_
  · intro av σ K kx hok hSp
    obtain ⟨q0, rfl, hp⟩ := sR_inv hSp
    obtain ⟨k0, e0, i0⟩ := q0
    obtain ⟨h0, h1⟩ := hp
    dsimp only at h0; subst h0
    all_goals (repeat' (first | (with_reducible assumption) | (with_reducible refine IV_upd ?_ ?_) | (with_reducible refine IV_cpy ?_ (fun _ _ _ _ => trivial)) | (refine And.intro ?_ ?_) | (intro _)))
    all_goals first | (first | rfl | decide | exact Or.inl rfl | exact Or.inr (Or.inl rfl) | exact Or.inr (Or.inr rfl) | (simp only [nrm, strm, by8] at * <;> omega) | (simp [upd4, cpy4, nrm, strm, by8] at * <;> omega)) | (exact h1 (by first | assumption | (first | rfl | decide | exact Or.inl rfl | exact Or.inr (Or.inl rfl) | exact Or.inr (Or.inr rfl) | (simp only [nrm, strm, by8] at * <;> omega) | (simp [upd4, cpy4, nrm, strm, by8] at * <;> omega)))) | (exact h1) | (refine h1 _ ?_ ?_ <;> (repeat' (first | assumption | exact trivial | exact Un_rf | exact hI 4 _ _ _ | exact hI 9 _ _ _ | exact hI 22 _ _ _ | (refine ixr_by8 ?_ ?_) | (refine IV_upd ?_ ?_) | (refine Un_upd rfl ?_) | (refine IV_cpy ?_ (fun _ _ _ _ => trivial)) | (refine Un_cpy rfl ?_) | (apply Un_tr; rotate_left; assumption; rfl) | (refine And.intro ?_ ?_))) <;> (first | rfl | decide | exact Or.inl rfl | exact Or.inr (Or.inl rfl) | exact Or.inr (Or.inr rfl) | (simp only [nrm, strm, by8] at * <;> omega) | (simp [upd4, cpy4, nrm, strm, by8] at * <;> omega))) | (apply h1 <;> (repeat' (first | assumption | exact trivial | exact Un_rf | exact hI 4 _ _ _ | exact hI 9 _ _ _ | exact hI 22 _ _ _ | (refine ixr_by8 ?_ ?_) | (refine IV_upd ?_ ?_) | (refine Un_upd rfl ?_) | (refine IV_cpy ?_ (fun _ _ _ _ => trivial)) | (refine Un_cpy rfl ?_) | (apply Un_tr; rotate_left; assumption; rfl) | (refine And.intro ?_ ?_))) <;> (first | rfl | decide | exact Or.inl rfl | exact Or.inr (Or.inl rfl) | exact Or.inr (Or.inr rfl) | (simp only [nrm, strm, by8] at * <;> omega) | (simp [upd4, cpy4, nrm, strm, by8] at * <;> omega))) | ((repeat' (first | assumption | exact trivial | exact Un_rf | exact hI 4 _ _ _ | exact hI 9 _ _ _ | exact hI 22 _ _ _ | (refine ixr_by8 ?_ ?_) | (refine IV_upd ?_ ?_) | (refine Un_upd rfl ?_) | (refine IV_cpy ?_ (fun _ _ _ _ => trivial)) | (refine Un_cpy rfl ?_) | (apply Un_tr; rotate_left; assumption; rfl) | (refine And.intro ?_ ?_))) <;> (first | rfl | decide | exact Or.inl rfl | exact Or.inr (Or.inl rfl) | exact Or.inr (Or.inr rfl) | (simp only [nrm, strm, by8] at * <;> omega) | (simp [upd4, cpy4, nrm, strm, by8] at * <;> omega)))
  · intro av σ K kx n pc L st σ' nc ns _ _ h
    exact (h : False).elim
def gt_Stream_growDue (a : Nat) : Option Nat := match a with
  | _ => none
theorem go_Stream_growDue : ∀ a v, gt_Stream_growDue a = some v → StaOK R_Stream a v := by
  intro a v h
  unfold gt_Stream_growDue at h
  cases h
def pr_Stream_growDue : List Ent := [(0, 5, 0, 0, 0), (1, 23, 0, 0, 0), (2, 39, 25, 0, 0), (5, 3, 1, 0, 0), (6, 12, 0, 0, 0), (7, 40, 25, 0, 0), (10, 49, 0, 0, 0)]
def sw_Stream_growDue : List Swt := []
theorem dk_Stream_growDue : ∀ q ∈ pr_Stream_growDue, decode b_Stream_growDue q.1 = .ok (dec sw_Stream_growDue q) ∧ okE q = true := by decide +kernel
theorem nt_Stream_growDue : ∀ q ∈ pr_Stream_growDue, ¬ q.2.1 = 55 := by decide +kernel
def ct_Stream_growDue (a : Nat) : Option (Nat × Nat × CSp × Nat × Nat) := match a with
  | _ => none
theorem co_Stream_growDue : ∀ a v, ct_Stream_growDue a = some v → StcOK R_Stream 0 0 a v := by
  intro a v h
  unfold ct_Stream_growDue at h
  cases h
/-- Stream_growDue -/
def sp_Stream_growDue : CSp := sRI (fun q x σ K _ => q.1 = 32 ∧ IV σ ∧ ∀ σ', IV σ' → Un [32] σ σ' → K none σ')
set_option maxHeartbeats 4000000 in
set_option maxRecDepth 100000 in
theorem c_Stream_growDue : Ctr y_Stream_growDue b_Stream_growDue 2 none 0 0 0 0 sp_Stream_growDue := by
  refine ctr_of (FT := ft_Stream) (GT := gt_Stream_growDue) (CT := ct_Stream_growDue) (sw := sw_Stream_growDue) (rt := 2) (pr := pr_Stream_growDue) (by decide) [] (fun _ _ _ _ _ _ _ _ _ _ _ => False) 20 ⟨fun h => absurd h (by decide), fun h => absurd h (by decide), fun _ => rfl, fun h => absurd h (by decide)⟩ dk_Stream_growDue fo_Stream go_Stream_growDue co_Stream_growDue (fun a k h hk => by unfold gt_Stream_growDue at h; cases h) (fun q hq h => absurd h (nt_Stream_growDue q hq)) (fun av σ K kx h => by rw [sRI_len h]; decide) ?_ ?_
  · intro av σ K kx hok hSp
    obtain ⟨q0, x0, rfl, hp⟩ := sRI_inv hSp
    obtain ⟨k0, e0, i0⟩ := q0
    obtain ⟨h0, hI, h2⟩ := hp
    dsimp only at h0; subst h0
    all_goals (repeat' (first | (with_reducible assumption) | (with_reducible refine IV_upd ?_ ?_) | (with_reducible refine IV_cpy ?_ (fun _ _ _ _ => trivial)) | (refine And.intro ?_ ?_) | (intro _)))
    all_goals first | (first | rfl | decide | exact Or.inl rfl | exact Or.inr (Or.inl rfl) | exact Or.inr (Or.inr rfl) | (simp only [nrm, strm, by8] at * <;> omega) | (simp [upd4, cpy4, nrm, strm, by8] at * <;> omega)) | (exact h2) | (refine h2 _ ?_ ?_ <;> (repeat' (first | assumption | exact trivial | exact Un_rf | exact hI 4 _ _ _ | exact hI 9 _ _ _ | exact hI 22 _ _ _ | (refine ixr_by8 ?_ ?_) | (refine IV_upd ?_ ?_) | (refine Un_upd rfl ?_) | (refine IV_cpy ?_ (fun _ _ _ _ => trivial)) | (refine Un_cpy rfl ?_) | (apply Un_tr; rotate_left; assumption; rfl) | (refine And.intro ?_ ?_))) <;> (first | rfl | decide | exact Or.inl rfl | exact Or.inr (Or.inl rfl) | exact Or.inr (Or.inr rfl) | (simp only [nrm, strm, by8] at * <;> omega) | (simp [upd4, cpy4, nrm, strm, by8] at * <;> omega))) | (apply h2 <;> (repeat' (first | assumption | exact trivial | exact Un_rf | exact hI 4 _ _ _ | exact hI 9 _ _ _ | exact hI 22 _ _ _ | (refine ixr_by8 ?_ ?_) | (refine IV_upd ?_ ?_) | (refine Un_upd rfl ?_) | (refine IV_cpy ?_ (fun _ _ _ _ => trivial)) | (refine Un_cpy rfl ?_) | (apply Un_tr; rotate_left; assumption; rfl) | (refine And.intro ?_ ?_))) <;> (first | rfl | decide | exact Or.inl rfl | exact Or.inr (Or.inl rfl) | exact Or.inr (Or.inr rfl) | (simp only [nrm, strm, by8] at * <;> omega) | (simp [upd4, cpy4, nrm, strm, by8] at * <;> omega))) | ((repeat' (first | assumption | exact trivial | exact Un_rf | exact hI 4 _ _ _ | exact hI 9 _ _ _ | exact hI 22 _ _ _ | (refine ixr_by8 ?_ ?_) | (refine IV_upd ?_ ?_) | (refine Un_upd rfl ?_) | (refine IV_cpy ?_ (fun _ _ _ _ => trivial)) | (refine Un_cpy rfl ?_) | (apply Un_tr; rotate_left; assumption; rfl) | (refine And.intro ?_ ?_))) <;> (first | rfl | decide | exact Or.inl rfl | exact Or.inr (Or.inl rfl) | exact Or.inr (Or.inr rfl) | (simp only [nrm, strm, by8] at * <;> omega) | (simp [upd4, cpy4, nrm, strm, by8] at * <;> omega)))
  · intro av σ K kx n pc L st σ' nc ns _ _ h
    exact (h : False).elim
def gt_Stream_takeData (a : Nat) : Option Nat := match a with
  | _ => none
theorem go_Stream_takeData : ∀ a v, gt_Stream_takeData a = some v → StaOK R_Stream a v := by
  intro a v h
  unfold gt_Stream_takeData at h
  cases h
def pr_Stream_takeData : List Ent := [(0, 5, 0, 0, 0), (1, 23, 0, 0, 0), (2, 39, 25, 0, 0), (5, 3, 1, 0, 0), (6, 13, 0, 0, 0), (7, 40, 25, 0, 0), (10, 5, 0, 0, 0), (11, 23, 0, 0, 0), (12, 39, 28, 0, 0), (15, 3, 1, 0, 0), (16, 12, 0, 0, 0), (17, 40, 28, 0, 0), (20, 5, 0, 0, 0), (21, 23, 0, 0, 0), (22, 39, 31, 0, 0), (25, 3, 2, 0, 0), (26, 12, 0, 0, 0), (27, 40, 31, 0, 0), (30, 49, 0, 0, 0)]
def sw_Stream_takeData : List Swt := []
theorem dk_Stream_takeData : ∀ q ∈ pr_Stream_takeData, decode b_Stream_takeData q.1 = .ok (dec sw_Stream_takeData q) ∧ okE q = true := by decide +kernel
theorem nt_Stream_takeData : ∀ q ∈ pr_Stream_takeData, ¬ q.2.1 = 55 := by decide +kernel
def ct_Stream_takeData (a : Nat) : Option (Nat × Nat × CSp × Nat × Nat) := match a with
  | _ => none
theorem co_Stream_takeData : ∀ a v, ct_Stream_takeData a = some v → StcOK R_Stream 0 0 a v := by
  intro a v h
  unfold ct_Stream_takeData at h
  cases h
/-- Stream_takeData -/
def sp_Stream_takeData : CSp := sRII (fun q x0 x1 σ K _ => q.1 = 32 ∧ IV σ ∧ ∀ σ', IV σ' → Un [32] σ σ' → K none σ')
set_option maxHeartbeats 4000000 in
set_option maxRecDepth 100000 in
theorem c_Stream_takeData : Ctr y_Stream_takeData b_Stream_takeData 3 none 0 0 0 0 sp_Stream_takeData := by
  refine ctr_of (FT := ft_Stream) (GT := gt_Stream_takeData) (CT := ct_Stream_takeData) (sw := sw_Stream_takeData) (rt := 2) (pr := pr_Stream_takeData) (by decide) [] (fun _ _ _ _ _ _ _ _ _ _ _ => False) 30 ⟨fun h => absurd h (by decide), fun h => absurd h (by decide), fun _ => rfl, fun h => absurd h (by decide)⟩ dk_Stream_takeData fo_Stream go_Stream_takeData co_Stream_takeData (fun a k h hk => by unfold gt_Stream_takeData at h; cases h) (fun q hq h => absurd h (nt_Stream_takeData q hq)) (fun av σ K kx h => by rw [sRII_len h]; decide) ?_ ?_
  · intro av σ K kx hok hSp
    obtain ⟨q0, x0, x1, rfl, hp⟩ := sRII_inv hSp
    obtain ⟨k0, e0, i0⟩ := q0
    obtain ⟨h0, hI, h2⟩ := hp
    dsimp only at h0; subst h0
    all_goals (repeat' (first | (with_reducible assumption) | (with_reducible refine IV_upd ?_ ?_) | (with_reducible refine IV_cpy ?_ (fun _ _ _ _ => trivial)) | (refine And.intro ?_ ?_) | (intro _)))
    all_goals first | (first | rfl | decide | exact Or.inl rfl | exact Or.inr (Or.inl rfl) | exact Or.inr (Or.inr rfl) | (simp only [nrm, strm, by8] at * <;> omega) | (simp [upd4, cpy4, nrm, strm, by8] at * <;> omega)) | (exact h2) | (refine h2 _ ?_ ?_ <;> (repeat' (first | assumption | exact trivial | exact Un_rf | exact hI 4 _ _ _ | exact hI 9 _ _ _ | exact hI 22 _ _ _ | (refine ixr_by8 ?_ ?_) | (refine IV_upd ?_ ?_) | (refine Un_upd rfl ?_) | (refine IV_cpy ?_ (fun _ _ _ _ => trivial)) | (refine Un_cpy rfl ?_) | (apply Un_tr; rotate_left; assumption; rfl) | (refine And.intro ?_ ?_))) <;> (first | rfl | decide | exact Or.inl rfl | exact Or.inr (Or.inl rfl) | exact Or.inr (Or.inr rfl) | (simp only [nrm, strm, by8] at * <;> omega) | (simp [upd4, cpy4, nrm, strm, by8] at * <;> omega))) | (apply h2 <;> (repeat' (first | assumption | exact trivial | exact Un_rf | exact hI 4 _ _ _ | exact hI 9 _ _ _ | exact hI 22 _ _ _ | (refine ixr_by8 ?_ ?_) | (refine IV_upd ?_ ?_) | (refine Un_upd rfl ?_) | (refine IV_cpy ?_ (fun _ _ _ _ => trivial)) | (refine Un_cpy rfl ?_) | (apply Un_tr; rotate_left; assumption; rfl) | (refine And.intro ?_ ?_))) <;> (first | rfl | decide | exact Or.inl rfl | exact Or.inr (Or.inl rfl) | exact Or.inr (Or.inr rfl) | (simp only [nrm, strm, by8] at * <;> omega) | (simp [upd4, cpy4, nrm, strm, by8] at * <;> omega))) | ((repeat' (first | assumption | exact trivial | exact Un_rf | exact hI 4 _ _ _ | exact hI 9 _ _ _ | exact hI 22 _ _ _ | (refine ixr_by8 ?_ ?_) | (refine IV_upd ?_ ?_) | (refine Un_upd rfl ?_) | (refine IV_cpy ?_ (fun _ _ _ _ => trivial)) | (refine Un_cpy rfl ?_) | (apply Un_tr; rotate_left; assumption; rfl) | (refine And.intro ?_ ?_))) <;> (first | rfl | decide | exact Or.inl rfl | exact Or.inr (Or.inl rfl) | exact Or.inr (Or.inr rfl) | (simp only [nrm, strm, by8] at * <;> omega) | (simp [upd4, cpy4, nrm, strm, by8] at * <;> omega)))
  · intro av σ K kx n pc L st σ' nc ns _ _ h
    exact (h : False).elim
def gt_Stream_fields (a : Nat) : Option Nat := match a with
  | _ => none
theorem go_Stream_fields : ∀ a v, gt_Stream_fields a = some v → StaOK R_Stream a v := by
  intro a v h
  unfold gt_Stream_fields at h
  cases h
def pr_Stream_fields : List Ent := [(0, 5, 0, 0, 0), (1, 39, 12, 0, 0), (4, 50, 0, 0, 0)]
def sw_Stream_fields : List Swt := []
theorem dk_Stream_fields : ∀ q ∈ pr_Stream_fields, decode b_Stream_fields q.1 = .ok (dec sw_Stream_fields q) ∧ okE q = true := by decide +kernel
theorem nt_Stream_fields : ∀ q ∈ pr_Stream_fields, ¬ q.2.1 = 55 := by decide +kernel
def ct_Stream_fields (a : Nat) : Option (Nat × Nat × CSp × Nat × Nat) := match a with
  | _ => none
theorem co_Stream_fields : ∀ a v, ct_Stream_fields a = some v → StcOK R_Stream 0 0 a v := by
  intro a v h
  unfold ct_Stream_fields at h
  cases h
/-- Stream_fields -/
def sp_Stream_fields : CSp := sR (fun q σ K _ => q.1 = 32 ∧ K (some (.inr (35, q.2.1, q.2.2))) σ)
set_option maxHeartbeats 4000000 in
set_option maxRecDepth 100000 in
theorem c_Stream_fields : Ctr y_Stream_fields b_Stream_fields 1 (some (.object "FrameStreams$Fields")) 0 0 0 0 sp_Stream_fields := by
  refine ctr_of (FT := ft_Stream) (GT := gt_Stream_fields) (CT := ct_Stream_fields) (sw := sw_Stream_fields) (rt := 3) (pr := pr_Stream_fields) (by decide) [] (fun _ _ _ _ _ _ _ _ _ _ _ => False) 20 ⟨fun h => absurd h (by decide), fun h => absurd h (by decide), fun h => absurd h (by decide), fun _ => ⟨_, rfl⟩⟩ dk_Stream_fields fo_Stream go_Stream_fields co_Stream_fields (fun a k h hk => by unfold gt_Stream_fields at h; cases h) (fun q hq h => absurd h (nt_Stream_fields q hq)) (fun av σ K kx h => by rw [sR_len h]; decide) ?_ ?_
  · intro av σ K kx hok hSp
    obtain ⟨q0, rfl, hp⟩ := sR_inv hSp
    obtain ⟨k0, e0, i0⟩ := q0
    obtain ⟨h0, h1⟩ := hp
    dsimp only at h0; subst h0
    all_goals (repeat' (first | (with_reducible assumption) | (with_reducible refine IV_upd ?_ ?_) | (with_reducible refine IV_cpy ?_ (fun _ _ _ _ => trivial)) | (refine And.intro ?_ ?_) | (intro _)))
    all_goals first | (first | rfl | decide | exact Or.inl rfl | exact Or.inr (Or.inl rfl) | exact Or.inr (Or.inr rfl) | (simp only [nrm, strm, by8] at * <;> omega) | (simp [upd4, cpy4, nrm, strm, by8] at * <;> omega)) | (exact h1 (by first | assumption | (first | rfl | decide | exact Or.inl rfl | exact Or.inr (Or.inl rfl) | exact Or.inr (Or.inr rfl) | (simp only [nrm, strm, by8] at * <;> omega) | (simp [upd4, cpy4, nrm, strm, by8] at * <;> omega)))) | (exact h1) | (refine h1 _ ?_ ?_ <;> (repeat' (first | assumption | exact trivial | exact Un_rf | exact hI 4 _ _ _ | exact hI 9 _ _ _ | exact hI 22 _ _ _ | (refine ixr_by8 ?_ ?_) | (refine IV_upd ?_ ?_) | (refine Un_upd rfl ?_) | (refine IV_cpy ?_ (fun _ _ _ _ => trivial)) | (refine Un_cpy rfl ?_) | (apply Un_tr; rotate_left; assumption; rfl) | (refine And.intro ?_ ?_))) <;> (first | rfl | decide | exact Or.inl rfl | exact Or.inr (Or.inl rfl) | exact Or.inr (Or.inr rfl) | (simp only [nrm, strm, by8] at * <;> omega) | (simp [upd4, cpy4, nrm, strm, by8] at * <;> omega))) | (apply h1 <;> (repeat' (first | assumption | exact trivial | exact Un_rf | exact hI 4 _ _ _ | exact hI 9 _ _ _ | exact hI 22 _ _ _ | (refine ixr_by8 ?_ ?_) | (refine IV_upd ?_ ?_) | (refine Un_upd rfl ?_) | (refine IV_cpy ?_ (fun _ _ _ _ => trivial)) | (refine Un_cpy rfl ?_) | (apply Un_tr; rotate_left; assumption; rfl) | (refine And.intro ?_ ?_))) <;> (first | rfl | decide | exact Or.inl rfl | exact Or.inr (Or.inl rfl) | exact Or.inr (Or.inr rfl) | (simp only [nrm, strm, by8] at * <;> omega) | (simp [upd4, cpy4, nrm, strm, by8] at * <;> omega))) | ((repeat' (first | assumption | exact trivial | exact Un_rf | exact hI 4 _ _ _ | exact hI 9 _ _ _ | exact hI 22 _ _ _ | (refine ixr_by8 ?_ ?_) | (refine IV_upd ?_ ?_) | (refine Un_upd rfl ?_) | (refine IV_cpy ?_ (fun _ _ _ _ => trivial)) | (refine Un_cpy rfl ?_) | (apply Un_tr; rotate_left; assumption; rfl) | (refine And.intro ?_ ?_))) <;> (first | rfl | decide | exact Or.inl rfl | exact Or.inr (Or.inl rfl) | exact Or.inr (Or.inr rfl) | (simp only [nrm, strm, by8] at * <;> omega) | (simp [upd4, cpy4, nrm, strm, by8] at * <;> omega)))
  · intro av σ K kx n pc L st σ' nc ns _ _ h
    exact (h : False).elim
def gt_Stream_tell (a : Nat) : Option Nat := match a with
  | _ => none
theorem go_Stream_tell : ∀ a v, gt_Stream_tell a = some v → StaOK R_Stream a v := by
  intro a v h
  unfold gt_Stream_tell at h
  cases h
def pr_Stream_tell : List Ent := [(0, 3, 1, 0, 0), (1, 51, 0, 0, 0), (36, 5, 0, 0, 0), (37, 39, 18, 0, 0), (40, 48, 0, 0, 0), (41, 5, 0, 0, 0), (42, 39, 22, 0, 0), (45, 48, 0, 0, 0), (46, 5, 0, 0, 0), (47, 39, 25, 0, 0), (50, 48, 0, 0, 0), (51, 5, 0, 0, 0), (52, 39, 28, 0, 0), (55, 48, 0, 0, 0), (56, 5, 0, 0, 0), (57, 39, 31, 0, 0), (60, 48, 0, 0, 0), (61, 5, 0, 0, 0), (62, 39, 12, 0, 0), (65, 46, 41, 0, 0), (68, 48, 0, 0, 0)]
def sw_Stream_tell : List Swt := [(0, [36, 41, 46, 51, 56], 61, 35)]
theorem dk_Stream_tell : ∀ q ∈ pr_Stream_tell, decode b_Stream_tell q.1 = .ok (dec sw_Stream_tell q) ∧ okE q = true := by decide +kernel
theorem nt_Stream_tell : ∀ q ∈ pr_Stream_tell, ¬ q.2.1 = 55 := by decide +kernel
def ct_Stream_tell (a : Nat) : Option (Nat × Nat × CSp × Nat × Nat) := match a with
  | 41 => some (1, 4, sp_Fields_count, 0, 0)
  | _ => none
theorem co_Stream_tell : ∀ a v, ct_Stream_tell a = some v → StcOK R_Stream 1 20 a v := by
  intro a v h
  unfold ct_Stream_tell at h
  split at h
  · cases h; exact ⟨y_Fields_count, b_Fields_count, 1, (some .int), 0, 0, 0, c_Fields_count, by decide, by decide +kernel, by decide +kernel, by decide +kernel, Or.inl ⟨rfl, by decide, by decide +kernel, by decide +kernel, _, _, rfl, by decide +kernel⟩⟩
  · cases h
/-- Stream_tell -/
def sp_Stream_tell : CSp := sRI (fun q x σ K _ => q.1 = 32 ∧ ∀ r, K (some (.inl r)) σ)
set_option maxHeartbeats 4000000 in
set_option maxRecDepth 100000 in
theorem c_Stream_tell : Ctr y_Stream_tell b_Stream_tell 2 (some .int) 1 20 0 0 sp_Stream_tell := by
  refine ctr_of (FT := ft_Stream) (GT := gt_Stream_tell) (CT := ct_Stream_tell) (sw := sw_Stream_tell) (rt := 0) (pr := pr_Stream_tell) (by decide) [] (fun _ _ _ _ _ _ _ _ _ _ _ => False) 40 ⟨fun _ => rfl, fun h => absurd h (by decide), fun h => absurd h (by decide), fun h => absurd h (by decide)⟩ dk_Stream_tell fo_Stream go_Stream_tell co_Stream_tell (fun a k h hk => by unfold gt_Stream_tell at h; cases h) (fun q hq h => absurd h (nt_Stream_tell q hq)) (fun av σ K kx h => by rw [sRI_len h]; decide) ?_ ?_
  · intro av σ K kx hok hSp
    obtain ⟨q0, x0, rfl, hp⟩ := sRI_inv hSp
    obtain ⟨k0, e0, i0⟩ := q0
    obtain ⟨h0, h1⟩ := hp
    dsimp only at h0; subst h0
    all_goals (repeat' (first | (with_reducible assumption) | (with_reducible refine IV_upd ?_ ?_) | (with_reducible refine IV_cpy ?_ (fun _ _ _ _ => trivial)) | (refine And.intro ?_ ?_) | (intro _)))
    all_goals first | (first | rfl | decide | exact Or.inl rfl | exact Or.inr (Or.inl rfl) | exact Or.inr (Or.inr rfl) | (simp only [nrm, strm, by8] at * <;> omega) | (simp [upd4, cpy4, nrm, strm, by8] at * <;> omega)) | (exact h1) | (refine h1 _ ?_ ?_ <;> (repeat' (first | assumption | exact trivial | exact Un_rf | exact hI 4 _ _ _ | exact hI 9 _ _ _ | exact hI 22 _ _ _ | (refine ixr_by8 ?_ ?_) | (refine IV_upd ?_ ?_) | (refine Un_upd rfl ?_) | (refine IV_cpy ?_ (fun _ _ _ _ => trivial)) | (refine Un_cpy rfl ?_) | (apply Un_tr; rotate_left; assumption; rfl) | (refine And.intro ?_ ?_))) <;> (first | rfl | decide | exact Or.inl rfl | exact Or.inr (Or.inl rfl) | exact Or.inr (Or.inr rfl) | (simp only [nrm, strm, by8] at * <;> omega) | (simp [upd4, cpy4, nrm, strm, by8] at * <;> omega))) | (apply h1 <;> (repeat' (first | assumption | exact trivial | exact Un_rf | exact hI 4 _ _ _ | exact hI 9 _ _ _ | exact hI 22 _ _ _ | (refine ixr_by8 ?_ ?_) | (refine IV_upd ?_ ?_) | (refine Un_upd rfl ?_) | (refine IV_cpy ?_ (fun _ _ _ _ => trivial)) | (refine Un_cpy rfl ?_) | (apply Un_tr; rotate_left; assumption; rfl) | (refine And.intro ?_ ?_))) <;> (first | rfl | decide | exact Or.inl rfl | exact Or.inr (Or.inl rfl) | exact Or.inr (Or.inr rfl) | (simp only [nrm, strm, by8] at * <;> omega) | (simp [upd4, cpy4, nrm, strm, by8] at * <;> omega))) | ((repeat' (first | assumption | exact trivial | exact Un_rf | exact hI 4 _ _ _ | exact hI 9 _ _ _ | exact hI 22 _ _ _ | (refine ixr_by8 ?_ ?_) | (refine IV_upd ?_ ?_) | (refine Un_upd rfl ?_) | (refine IV_cpy ?_ (fun _ _ _ _ => trivial)) | (refine Un_cpy rfl ?_) | (apply Un_tr; rotate_left; assumption; rfl) | (refine And.intro ?_ ?_))) <;> (first | rfl | decide | exact Or.inl rfl | exact Or.inr (Or.inl rfl) | exact Or.inr (Or.inr rfl) | (simp only [nrm, strm, by8] at * <;> omega) | (simp [upd4, cpy4, nrm, strm, by8] at * <;> omega)))
  · intro av σ K kx n pc L st σ' nc ns _ _ h
    exact (h : False).elim
end
section
theorem tlF_rg (x : Int) : ∀ (n : Nat) (l : Int), 0 ≤ l → 0 ≤ tlF x n l ∧ tlF x n l ≤ l + n
  | 0, l, h => by
    show 0 ≤ l ∧ l ≤ l + (0 : Nat)
    omega
  | n + 1, l, h => by
    show 0 ≤ (if nrm (isr x (5 * l)) = 0 then l else tlF x n (l + 1)) ∧ (if nrm (isr x (5 * l)) = 0 then l else tlF x n (l + 1)) ≤ l + (n + 1 : Nat)
    have ih := tlF_rg x n (l + 1) (by omega)
    split <;> omega
theorem tl_rg (x : Int) : 0 ≤ tl x ∧ tl x ≤ 6 := by
  have h := tlF_rg x 6 0 (by omega)
  unfold tl
  omega
theorem sv201 (j : Nat) : 0 ≤ sv 201 j ∧ sv 201 j ≤ 60 := by
  rcases j with _ | _ | _ | j
  · decide
  · decide
  · decide
  · show 0 ≤ ([6, 60, 7] : List Int).getD (j + 3) 0 ∧ ([6, 60, 7] : List Int).getD (j + 3) 0 ≤ 60
    simp
theorem by8_4 {σ : Sg} {e i j : Nat} (h : IV σ) : by8 (σ 4 e i j) := h 4 e i j
theorem by8_9 {σ : Sg} {e i j : Nat} (h : IV σ) : by8 (σ 9 e i j) := h 9 e i j
theorem by8_22 {σ : Sg} {e i j : Nat} (h : IV σ) : by8 (σ 22 e i j) := h 22 e i j
theorem by8_g {σ : Sg} {e i : Nat} (h : IV σ) : by8 (σ 7 e i 11) := h 7 e i 11
theorem rg_34 {σ : Sg} {e i j : Nat} (h : IV σ) : 0 ≤ σ 34 e i j ∧ σ 34 e i j ≤ 60 := h 34 e i j
def fx (x : Int) : Nat := (nrm (nrm (x + 1) / 2)).toNat
theorem by8_13 {σ : Sg} {e i : Nat} (h : IV σ) : by8 (σ 13 e i 3) := by
  have h2 : 0 ≤ σ 13 e i 3 ∧ σ 13 e i 3 ≤ 76 := h 13 e i 3
  unfold by8
  omega
theorem op_rg {σ σ1 : Sg} {e i : Nat} (h : IV σ1) (hU : Un [32] σ σ1) (ho : σ 7 e i 10 ≤ 6) : rg 7 10 (σ1 7 e i 10 + 1) := by
  have h2 : 0 ≤ σ1 7 e i 10 ∧ σ1 7 e i 10 ≤ 7 := h 7 e i 10
  have h3 : σ1 7 e i 10 = σ 7 e i 10 := hU 7 e i 10 rfl
  show 0 ≤ σ1 7 e i 10 + 1 ∧ σ1 7 e i 10 + 1 ≤ 7
  omega
def ft_BlockWriter (a : Nat) : Option (Nat × Nat × Nat) := match a with
  | 12 => some (2, 0, 2)
  | 18 => some (2, 1, 2)
  | 21 => some (2, 2, 2)
  | 25 => some (2, 3, 0)
  | _ => none
theorem fo_BlockWriter : ∀ a v, ft_BlockWriter a = some v → FldOK R_BlockWriter a v := by
  intro a v h
  unfold ft_BlockWriter at h
  split at h
  · cases h; exact fl_BlockWriter _ _ _ _ (by decide) (by decide +kernel) (by decide)
  · cases h; exact fl_BlockWriter _ _ _ _ (by decide) (by decide +kernel) (by decide)
  · cases h; exact fl_BlockWriter _ _ _ _ (by decide) (by decide +kernel) (by decide)
  · cases h; exact fl_BlockWriter _ _ _ _ (by decide) (by decide +kernel) (by decide)
  · cases h
def gt_BlockWriter_table (a : Nat) : Option Nat := match a with
  | _ => none
theorem go_BlockWriter_table : ∀ a v, gt_BlockWriter_table a = some v → StaOK R_BlockWriter a v := by
  intro a v h
  unfold gt_BlockWriter_table at h
  cases h
def pr_BlockWriter_table : List Ent := [(0, 5, 0, 0, 0), (1, 39, 12, 0, 0), (4, 50, 0, 0, 0)]
def sw_BlockWriter_table : List Swt := []
theorem dk_BlockWriter_table : ∀ q ∈ pr_BlockWriter_table, decode b_BlockWriter_table q.1 = .ok (dec sw_BlockWriter_table q) ∧ okE q = true := by decide +kernel
theorem nt_BlockWriter_table : ∀ q ∈ pr_BlockWriter_table, ¬ q.2.1 = 55 := by decide +kernel
def ct_BlockWriter_table (a : Nat) : Option (Nat × Nat × CSp × Nat × Nat) := match a with
  | _ => none
theorem co_BlockWriter_table : ∀ a v, ct_BlockWriter_table a = some v → StcOK R_BlockWriter 0 0 a v := by
  intro a v h
  unfold ct_BlockWriter_table at h
  cases h
/-- BlockWriter_table -/
def sp_BlockWriter_table : CSp := sR (fun q σ K _ => q.1 = 13 ∧ K (some (.inr (14, q.2.1, q.2.2))) σ)
set_option maxHeartbeats 4000000 in
set_option maxRecDepth 100000 in
theorem c_BlockWriter_table : Ctr y_BlockWriter_table b_BlockWriter_table 1 (some (.object "FrameStreams$Table")) 0 0 0 0 sp_BlockWriter_table := by
  refine ctr_of (FT := ft_BlockWriter) (GT := gt_BlockWriter_table) (CT := ct_BlockWriter_table) (sw := sw_BlockWriter_table) (rt := 3) (pr := pr_BlockWriter_table) (by decide) [] (fun _ _ _ _ _ _ _ _ _ _ _ => False) 20 ⟨fun h => absurd h (by decide), fun h => absurd h (by decide), fun h => absurd h (by decide), fun _ => ⟨_, rfl⟩⟩ dk_BlockWriter_table fo_BlockWriter go_BlockWriter_table co_BlockWriter_table (fun a k h hk => by unfold gt_BlockWriter_table at h; cases h) (fun q hq h => absurd h (nt_BlockWriter_table q hq)) (fun av σ K kx h => by rw [sR_len h]; decide) ?_ ?_
  · intro av σ K kx hok hSp
    obtain ⟨q0, rfl, hp⟩ := sR_inv hSp
    obtain ⟨k0, e0, i0⟩ := q0
    obtain ⟨h0, h1⟩ := hp
    dsimp only at h0; subst h0
    all_goals (repeat' (first | (with_reducible assumption) | (with_reducible refine IV_upd ?_ ?_) | (with_reducible refine IV_cpy ?_ (fun _ _ _ _ => trivial)) | (refine And.intro ?_ ?_) | (intro _)))
    all_goals first | (first | rfl | decide | exact Or.inl rfl | exact Or.inr (Or.inl rfl) | exact Or.inr (Or.inr rfl) | (simp only [nrm, strm, by8] at * <;> omega) | (simp [upd4, cpy4, nrm, strm, by8] at * <;> omega)) | (exact h1 (by first | assumption | (first | rfl | decide | exact Or.inl rfl | exact Or.inr (Or.inl rfl) | exact Or.inr (Or.inr rfl) | (simp only [nrm, strm, by8] at * <;> omega) | (simp [upd4, cpy4, nrm, strm, by8] at * <;> omega)))) | (exact h1) | (refine h1 _ ?_ ?_ <;> (repeat' (first | assumption | exact trivial | exact Un_rf | (apply by8_4; assumption) | (apply by8_9; assumption) | (apply by8_22; assumption) | (apply by8_g; assumption) | (refine by8_13 ?_) | (apply rg_34; assumption) | (refine ixr_by8 ?_ ?_) | (refine IV_upd ?_ ?_) | (refine Un_upd rfl ?_) | (refine IV_cpy ?_ (fun _ _ _ _ => trivial)) | (refine Un_cpy rfl ?_) | (apply Un_tr; rotate_left; assumption; rfl) | (refine And.intro ?_ ?_))) <;> (first | rfl | decide | exact Or.inl rfl | exact Or.inr (Or.inl rfl) | exact Or.inr (Or.inr rfl) | (simp only [nrm, strm, by8] at * <;> omega) | (simp [upd4, cpy4, nrm, strm, by8] at * <;> omega))) | (apply h1 <;> (repeat' (first | assumption | exact trivial | exact Un_rf | (apply by8_4; assumption) | (apply by8_9; assumption) | (apply by8_22; assumption) | (apply by8_g; assumption) | (refine by8_13 ?_) | (apply rg_34; assumption) | (refine ixr_by8 ?_ ?_) | (refine IV_upd ?_ ?_) | (refine Un_upd rfl ?_) | (refine IV_cpy ?_ (fun _ _ _ _ => trivial)) | (refine Un_cpy rfl ?_) | (apply Un_tr; rotate_left; assumption; rfl) | (refine And.intro ?_ ?_))) <;> (first | rfl | decide | exact Or.inl rfl | exact Or.inr (Or.inl rfl) | exact Or.inr (Or.inr rfl) | (simp only [nrm, strm, by8] at * <;> omega) | (simp [upd4, cpy4, nrm, strm, by8] at * <;> omega))) | ((repeat' (first | assumption | exact trivial | exact Un_rf | (apply by8_4; assumption) | (apply by8_9; assumption) | (apply by8_22; assumption) | (apply by8_g; assumption) | (refine by8_13 ?_) | (apply rg_34; assumption) | (refine ixr_by8 ?_ ?_) | (refine IV_upd ?_ ?_) | (refine Un_upd rfl ?_) | (refine IV_cpy ?_ (fun _ _ _ _ => trivial)) | (refine Un_cpy rfl ?_) | (apply Un_tr; rotate_left; assumption; rfl) | (refine And.intro ?_ ?_))) <;> (first | rfl | decide | exact Or.inl rfl | exact Or.inr (Or.inl rfl) | exact Or.inr (Or.inr rfl) | (simp only [nrm, strm, by8] at * <;> omega) | (simp [upd4, cpy4, nrm, strm, by8] at * <;> omega)))
  · intro av σ K kx n pc L st σ' nc ns _ _ h
    exact (h : False).elim
def gt_BlockWriter_length (a : Nat) : Option Nat := match a with
  | _ => none
theorem go_BlockWriter_length : ∀ a v, gt_BlockWriter_length a = some v → StaOK R_BlockWriter a v := by
  intro a v h
  unfold gt_BlockWriter_length at h
  cases h
def pr_BlockWriter_length : List Ent := [(0, 5, 0, 0, 0), (1, 39, 25, 0, 0), (4, 48, 0, 0, 0)]
def sw_BlockWriter_length : List Swt := []
theorem dk_BlockWriter_length : ∀ q ∈ pr_BlockWriter_length, decode b_BlockWriter_length q.1 = .ok (dec sw_BlockWriter_length q) ∧ okE q = true := by decide +kernel
theorem nt_BlockWriter_length : ∀ q ∈ pr_BlockWriter_length, ¬ q.2.1 = 55 := by decide +kernel
def ct_BlockWriter_length (a : Nat) : Option (Nat × Nat × CSp × Nat × Nat) := match a with
  | _ => none
theorem co_BlockWriter_length : ∀ a v, ct_BlockWriter_length a = some v → StcOK R_BlockWriter 0 0 a v := by
  intro a v h
  unfold ct_BlockWriter_length at h
  cases h
/-- BlockWriter_length -/
def sp_BlockWriter_length : CSp := sR (fun q σ K _ => q.1 = 13 ∧ K (some (.inl (σ 13 q.2.1 q.2.2 3))) σ)
set_option maxHeartbeats 4000000 in
set_option maxRecDepth 100000 in
theorem c_BlockWriter_length : Ctr y_BlockWriter_length b_BlockWriter_length 1 (some .int) 0 0 0 0 sp_BlockWriter_length := by
  refine ctr_of (FT := ft_BlockWriter) (GT := gt_BlockWriter_length) (CT := ct_BlockWriter_length) (sw := sw_BlockWriter_length) (rt := 0) (pr := pr_BlockWriter_length) (by decide) [] (fun _ _ _ _ _ _ _ _ _ _ _ => False) 20 ⟨fun _ => rfl, fun h => absurd h (by decide), fun h => absurd h (by decide), fun h => absurd h (by decide)⟩ dk_BlockWriter_length fo_BlockWriter go_BlockWriter_length co_BlockWriter_length (fun a k h hk => by unfold gt_BlockWriter_length at h; cases h) (fun q hq h => absurd h (nt_BlockWriter_length q hq)) (fun av σ K kx h => by rw [sR_len h]; decide) ?_ ?_
  · intro av σ K kx hok hSp
    obtain ⟨q0, rfl, hp⟩ := sR_inv hSp
    obtain ⟨k0, e0, i0⟩ := q0
    obtain ⟨h0, h1⟩ := hp
    dsimp only at h0; subst h0
    all_goals (repeat' (first | (with_reducible assumption) | (with_reducible refine IV_upd ?_ ?_) | (with_reducible refine IV_cpy ?_ (fun _ _ _ _ => trivial)) | (refine And.intro ?_ ?_) | (intro _)))
    all_goals first | (first | rfl | decide | exact Or.inl rfl | exact Or.inr (Or.inl rfl) | exact Or.inr (Or.inr rfl) | (simp only [nrm, strm, by8] at * <;> omega) | (simp [upd4, cpy4, nrm, strm, by8] at * <;> omega)) | (exact h1 (by first | assumption | (first | rfl | decide | exact Or.inl rfl | exact Or.inr (Or.inl rfl) | exact Or.inr (Or.inr rfl) | (simp only [nrm, strm, by8] at * <;> omega) | (simp [upd4, cpy4, nrm, strm, by8] at * <;> omega)))) | (exact h1) | (refine h1 _ ?_ ?_ <;> (repeat' (first | assumption | exact trivial | exact Un_rf | (apply by8_4; assumption) | (apply by8_9; assumption) | (apply by8_22; assumption) | (apply by8_g; assumption) | (refine by8_13 ?_) | (apply rg_34; assumption) | (refine ixr_by8 ?_ ?_) | (refine IV_upd ?_ ?_) | (refine Un_upd rfl ?_) | (refine IV_cpy ?_ (fun _ _ _ _ => trivial)) | (refine Un_cpy rfl ?_) | (apply Un_tr; rotate_left; assumption; rfl) | (refine And.intro ?_ ?_))) <;> (first | rfl | decide | exact Or.inl rfl | exact Or.inr (Or.inl rfl) | exact Or.inr (Or.inr rfl) | (simp only [nrm, strm, by8] at * <;> omega) | (simp [upd4, cpy4, nrm, strm, by8] at * <;> omega))) | (apply h1 <;> (repeat' (first | assumption | exact trivial | exact Un_rf | (apply by8_4; assumption) | (apply by8_9; assumption) | (apply by8_22; assumption) | (apply by8_g; assumption) | (refine by8_13 ?_) | (apply rg_34; assumption) | (refine ixr_by8 ?_ ?_) | (refine IV_upd ?_ ?_) | (refine Un_upd rfl ?_) | (refine IV_cpy ?_ (fun _ _ _ _ => trivial)) | (refine Un_cpy rfl ?_) | (apply Un_tr; rotate_left; assumption; rfl) | (refine And.intro ?_ ?_))) <;> (first | rfl | decide | exact Or.inl rfl | exact Or.inr (Or.inl rfl) | exact Or.inr (Or.inr rfl) | (simp only [nrm, strm, by8] at * <;> omega) | (simp [upd4, cpy4, nrm, strm, by8] at * <;> omega))) | ((repeat' (first | assumption | exact trivial | exact Un_rf | (apply by8_4; assumption) | (apply by8_9; assumption) | (apply by8_22; assumption) | (apply by8_g; assumption) | (refine by8_13 ?_) | (apply rg_34; assumption) | (refine ixr_by8 ?_ ?_) | (refine IV_upd ?_ ?_) | (refine Un_upd rfl ?_) | (refine IV_cpy ?_ (fun _ _ _ _ => trivial)) | (refine Un_cpy rfl ?_) | (apply Un_tr; rotate_left; assumption; rfl) | (refine And.intro ?_ ?_))) <;> (first | rfl | decide | exact Or.inl rfl | exact Or.inr (Or.inl rfl) | exact Or.inr (Or.inr rfl) | (simp only [nrm, strm, by8] at * <;> omega) | (simp [upd4, cpy4, nrm, strm, by8] at * <;> omega)))
  · intro av σ K kx n pc L st σ' nc ns _ _ h
    exact (h : False).elim
def gt_BlockWriter_at (a : Nat) : Option Nat := match a with
  | _ => none
theorem go_BlockWriter_at : ∀ a v, gt_BlockWriter_at a = some v → StaOK R_BlockWriter a v := by
  intro a v h
  unfold gt_BlockWriter_at at h
  cases h
def pr_BlockWriter_at : List Ent := [(0, 3, 1, 0, 0), (1, 28, 0, 0, 21), (4, 3, 1, 0, 0), (5, 5, 0, 0, 0), (6, 39, 25, 0, 0), (9, 35, 0, 0, 21), (12, 5, 0, 0, 0), (13, 39, 21, 0, 0), (16, 3, 1, 0, 0), (17, 41, 0, 0, 0), (18, 38, 0, 0, 22), (21, 0, 0, 0, 0), (22, 48, 0, 0, 0)]
def sw_BlockWriter_at : List Swt := []
theorem dk_BlockWriter_at : ∀ q ∈ pr_BlockWriter_at, decode b_BlockWriter_at q.1 = .ok (dec sw_BlockWriter_at q) ∧ okE q = true := by decide +kernel
theorem nt_BlockWriter_at : ∀ q ∈ pr_BlockWriter_at, ¬ q.2.1 = 55 := by decide +kernel
def ct_BlockWriter_at (a : Nat) : Option (Nat × Nat × CSp × Nat × Nat) := match a with
  | _ => none
theorem co_BlockWriter_at : ∀ a v, ct_BlockWriter_at a = some v → StcOK R_BlockWriter 0 0 a v := by
  intro a v h
  unfold ct_BlockWriter_at at h
  cases h
/-- BlockWriter_at -/
def sp_BlockWriter_at : CSp := sRI (fun q x σ K _ => q.1 = 13 ∧ IV σ ∧ ∀ r, by8 r → K (some (.inl r)) σ)
set_option maxHeartbeats 4000000 in
set_option maxRecDepth 100000 in
theorem c_BlockWriter_at : Ctr y_BlockWriter_at b_BlockWriter_at 2 (some .int) 0 0 0 0 sp_BlockWriter_at := by
  refine ctr_of (FT := ft_BlockWriter) (GT := gt_BlockWriter_at) (CT := ct_BlockWriter_at) (sw := sw_BlockWriter_at) (rt := 0) (pr := pr_BlockWriter_at) (by decide) [] (fun _ _ _ _ _ _ _ _ _ _ _ => False) 30 ⟨fun _ => rfl, fun h => absurd h (by decide), fun h => absurd h (by decide), fun h => absurd h (by decide)⟩ dk_BlockWriter_at fo_BlockWriter go_BlockWriter_at co_BlockWriter_at (fun a k h hk => by unfold gt_BlockWriter_at at h; cases h) (fun q hq h => absurd h (nt_BlockWriter_at q hq)) (fun av σ K kx h => by rw [sRI_len h]; decide) ?_ ?_
  · intro av σ K kx hok hSp
    obtain ⟨q0, x0, rfl, hp⟩ := sRI_inv hSp
    obtain ⟨k0, e0, i0⟩ := q0
    obtain ⟨h0, hI, h2⟩ := hp
    dsimp only at h0; subst h0
    have b3 : 0 ≤ σ 13 e0 i0 3 ∧ σ 13 e0 i0 3 ≤ 76 := hI 13 e0 i0 3
    all_goals (repeat' (first | (with_reducible assumption) | (with_reducible refine IV_upd ?_ ?_) | (with_reducible refine IV_cpy ?_ (fun _ _ _ _ => trivial)) | (refine And.intro ?_ ?_) | (intro _)))
    all_goals first | (first | rfl | decide | exact Or.inl rfl | exact Or.inr (Or.inl rfl) | exact Or.inr (Or.inr rfl) | (simp only [nrm, strm, by8] at * <;> omega) | (simp [upd4, cpy4, nrm, strm, by8] at * <;> omega)) | (exact h2) | (refine h2 _ ?_ ?_ <;> (repeat' (first | assumption | exact trivial | exact Un_rf | (apply by8_4; assumption) | (apply by8_9; assumption) | (apply by8_22; assumption) | (apply by8_g; assumption) | (refine by8_13 ?_) | (apply rg_34; assumption) | (refine ixr_by8 ?_ ?_) | (refine IV_upd ?_ ?_) | (refine Un_upd rfl ?_) | (refine IV_cpy ?_ (fun _ _ _ _ => trivial)) | (refine Un_cpy rfl ?_) | (apply Un_tr; rotate_left; assumption; rfl) | (refine And.intro ?_ ?_))) <;> (first | rfl | decide | exact Or.inl rfl | exact Or.inr (Or.inl rfl) | exact Or.inr (Or.inr rfl) | (simp only [nrm, strm, by8] at * <;> omega) | (simp [upd4, cpy4, nrm, strm, by8] at * <;> omega))) | (apply h2 <;> (repeat' (first | assumption | exact trivial | exact Un_rf | (apply by8_4; assumption) | (apply by8_9; assumption) | (apply by8_22; assumption) | (apply by8_g; assumption) | (refine by8_13 ?_) | (apply rg_34; assumption) | (refine ixr_by8 ?_ ?_) | (refine IV_upd ?_ ?_) | (refine Un_upd rfl ?_) | (refine IV_cpy ?_ (fun _ _ _ _ => trivial)) | (refine Un_cpy rfl ?_) | (apply Un_tr; rotate_left; assumption; rfl) | (refine And.intro ?_ ?_))) <;> (first | rfl | decide | exact Or.inl rfl | exact Or.inr (Or.inl rfl) | exact Or.inr (Or.inr rfl) | (simp only [nrm, strm, by8] at * <;> omega) | (simp [upd4, cpy4, nrm, strm, by8] at * <;> omega))) | ((repeat' (first | assumption | exact trivial | exact Un_rf | (apply by8_4; assumption) | (apply by8_9; assumption) | (apply by8_22; assumption) | (apply by8_g; assumption) | (refine by8_13 ?_) | (apply rg_34; assumption) | (refine ixr_by8 ?_ ?_) | (refine IV_upd ?_ ?_) | (refine Un_upd rfl ?_) | (refine IV_cpy ?_ (fun _ _ _ _ => trivial)) | (refine Un_cpy rfl ?_) | (apply Un_tr; rotate_left; assumption; rfl) | (refine And.intro ?_ ?_))) <;> (first | rfl | decide | exact Or.inl rfl | exact Or.inr (Or.inl rfl) | exact Or.inr (Or.inr rfl) | (simp only [nrm, strm, by8] at * <;> omega) | (simp [upd4, cpy4, nrm, strm, by8] at * <;> omega)))
  · intro av σ K kx n pc L st σ' nc ns _ _ h
    exact (h : False).elim
def gt_BlockWriter_put (a : Nat) : Option Nat := match a with
  | _ => none
theorem go_BlockWriter_put : ∀ a v, gt_BlockWriter_put a = some v → StaOK R_BlockWriter a v := by
  intro a v h
  unfold gt_BlockWriter_put at h
  cases h
def pr_BlockWriter_put : List Ent := [(0, 5, 0, 0, 0), (1, 39, 25, 0, 0), (4, 1, 0, 76, 0), (6, 35, 0, 0, 29), (9, 5, 0, 0, 0), (10, 39, 21, 0, 0), (13, 5, 0, 0, 0), (14, 39, 25, 0, 0), (17, 3, 1, 0, 0), (18, 42, 0, 0, 0), (19, 5, 0, 0, 0), (20, 23, 0, 0, 0), (21, 39, 25, 0, 0), (24, 0, 0, 1, 0), (25, 12, 0, 0, 0), (26, 40, 25, 0, 0), (29, 49, 0, 0, 0)]
def sw_BlockWriter_put : List Swt := []
theorem dk_BlockWriter_put : ∀ q ∈ pr_BlockWriter_put, decode b_BlockWriter_put q.1 = .ok (dec sw_BlockWriter_put q) ∧ okE q = true := by decide +kernel
theorem nt_BlockWriter_put : ∀ q ∈ pr_BlockWriter_put, ¬ q.2.1 = 55 := by decide +kernel
def ct_BlockWriter_put (a : Nat) : Option (Nat × Nat × CSp × Nat × Nat) := match a with
  | _ => none
theorem co_BlockWriter_put : ∀ a v, ct_BlockWriter_put a = some v → StcOK R_BlockWriter 0 0 a v := by
  intro a v h
  unfold ct_BlockWriter_put at h
  cases h
/-- BlockWriter_put -/
def sp_BlockWriter_put : CSp := sRI (fun q x σ K _ => q.1 = 13 ∧ IV σ ∧ by8 x ∧ ∀ σ', IV σ' → Un [13, 22] σ σ' → K none σ')
set_option maxHeartbeats 4000000 in
set_option maxRecDepth 100000 in
theorem c_BlockWriter_put : Ctr y_BlockWriter_put b_BlockWriter_put 2 none 0 0 0 0 sp_BlockWriter_put := by
  refine ctr_of (FT := ft_BlockWriter) (GT := gt_BlockWriter_put) (CT := ct_BlockWriter_put) (sw := sw_BlockWriter_put) (rt := 2) (pr := pr_BlockWriter_put) (by decide) [] (fun _ _ _ _ _ _ _ _ _ _ _ => False) 30 ⟨fun h => absurd h (by decide), fun h => absurd h (by decide), fun _ => rfl, fun h => absurd h (by decide)⟩ dk_BlockWriter_put fo_BlockWriter go_BlockWriter_put co_BlockWriter_put (fun a k h hk => by unfold gt_BlockWriter_put at h; cases h) (fun q hq h => absurd h (nt_BlockWriter_put q hq)) (fun av σ K kx h => by rw [sRI_len h]; decide) ?_ ?_
  · intro av σ K kx hok hSp
    obtain ⟨q0, x0, rfl, hp⟩ := sRI_inv hSp
    obtain ⟨k0, e0, i0⟩ := q0
    obtain ⟨h0, hI, h2, h3⟩ := hp
    dsimp only at h0; subst h0
    have b3 : 0 ≤ σ 13 e0 i0 3 ∧ σ 13 e0 i0 3 ≤ 76 := hI 13 e0 i0 3
    all_goals (repeat' (first | (with_reducible assumption) | (with_reducible refine IV_upd ?_ ?_) | (with_reducible refine IV_cpy ?_ (fun _ _ _ _ => trivial)) | (refine And.intro ?_ ?_) | (intro _)))
    all_goals first | (first | rfl | decide | exact Or.inl rfl | exact Or.inr (Or.inl rfl) | exact Or.inr (Or.inr rfl) | (simp only [nrm, strm, by8] at * <;> omega) | (simp [upd4, cpy4, nrm, strm, by8] at * <;> omega)) | (exact h3) | (refine h3 _ ?_ ?_ <;> (repeat' (first | assumption | exact trivial | exact Un_rf | (apply by8_4; assumption) | (apply by8_9; assumption) | (apply by8_22; assumption) | (apply by8_g; assumption) | (refine by8_13 ?_) | (apply rg_34; assumption) | (refine ixr_by8 ?_ ?_) | (refine IV_upd ?_ ?_) | (refine Un_upd rfl ?_) | (refine IV_cpy ?_ (fun _ _ _ _ => trivial)) | (refine Un_cpy rfl ?_) | (apply Un_tr; rotate_left; assumption; rfl) | (refine And.intro ?_ ?_))) <;> (first | rfl | decide | exact Or.inl rfl | exact Or.inr (Or.inl rfl) | exact Or.inr (Or.inr rfl) | (simp only [nrm, strm, by8] at * <;> omega) | (simp [upd4, cpy4, nrm, strm, by8] at * <;> omega))) | (apply h3 <;> (repeat' (first | assumption | exact trivial | exact Un_rf | (apply by8_4; assumption) | (apply by8_9; assumption) | (apply by8_22; assumption) | (apply by8_g; assumption) | (refine by8_13 ?_) | (apply rg_34; assumption) | (refine ixr_by8 ?_ ?_) | (refine IV_upd ?_ ?_) | (refine Un_upd rfl ?_) | (refine IV_cpy ?_ (fun _ _ _ _ => trivial)) | (refine Un_cpy rfl ?_) | (apply Un_tr; rotate_left; assumption; rfl) | (refine And.intro ?_ ?_))) <;> (first | rfl | decide | exact Or.inl rfl | exact Or.inr (Or.inl rfl) | exact Or.inr (Or.inr rfl) | (simp only [nrm, strm, by8] at * <;> omega) | (simp [upd4, cpy4, nrm, strm, by8] at * <;> omega))) | ((repeat' (first | assumption | exact trivial | exact Un_rf | (apply by8_4; assumption) | (apply by8_9; assumption) | (apply by8_22; assumption) | (apply by8_g; assumption) | (refine by8_13 ?_) | (apply rg_34; assumption) | (refine ixr_by8 ?_ ?_) | (refine IV_upd ?_ ?_) | (refine Un_upd rfl ?_) | (refine IV_cpy ?_ (fun _ _ _ _ => trivial)) | (refine Un_cpy rfl ?_) | (apply Un_tr; rotate_left; assumption; rfl) | (refine And.intro ?_ ?_))) <;> (first | rfl | decide | exact Or.inl rfl | exact Or.inr (Or.inl rfl) | exact Or.inr (Or.inr rfl) | (simp only [nrm, strm, by8] at * <;> omega) | (simp [upd4, cpy4, nrm, strm, by8] at * <;> omega)))
  · intro av σ K kx n pc L st σ' nc ns _ _ h
    exact (h : False).elim
def gt_BlockWriter_putText (a : Nat) : Option Nat := match a with
  | _ => none
theorem go_BlockWriter_putText : ∀ a v, gt_BlockWriter_putText a = some v → StaOK R_BlockWriter a v := by
  intro a v h
  unfold gt_BlockWriter_putText at h
  cases h
def pr_BlockWriter_putText : List Ent := [(0, 3, 1, 0, 0), (1, 47, 75, 0, 0), (4, 7, 2, 0, 0), (5, 5, 0, 0, 0), (6, 3, 2, 0, 0), (7, 46, 43, 0, 0), (10, 0, 0, 0, 0), (11, 7, 3, 0, 0), (12, 3, 3, 0, 0), (13, 3, 2, 0, 0), (14, 35, 0, 0, 32), (17, 5, 0, 0, 0), (18, 3, 1, 0, 0), (19, 3, 3, 0, 0), (20, 47, 79, 0, 0), (23, 46, 43, 0, 0), (26, 11, 3, 1, 0), (29, 38, 0, 0, 12), (32, 49, 0, 0, 0)]
def sw_BlockWriter_putText : List Swt := []
theorem dk_BlockWriter_putText : ∀ q ∈ pr_BlockWriter_putText, decode b_BlockWriter_putText q.1 = .ok (dec sw_BlockWriter_putText q) ∧ okE q = true := by decide +kernel
theorem nt_BlockWriter_putText : ∀ q ∈ pr_BlockWriter_putText, ¬ q.2.1 = 55 := by decide +kernel
def ct_BlockWriter_putText (a : Nat) : Option (Nat × Nat × CSp × Nat × Nat) := match a with
  | 43 => some (2, 2, sp_BlockWriter_put, 0, 0)
  | 75 => some (1, 1000, sp_Letters_length, 0, 0)
  | 79 => some (2, 1000, sp_Letters_letterAt, 0, 0)
  | _ => none
theorem co_BlockWriter_putText : ∀ a v, ct_BlockWriter_putText a = some v → StcOK R_BlockWriter 1 21 a v := by
  intro a v h
  unfold ct_BlockWriter_putText at h
  split at h
  · cases h; exact ⟨y_BlockWriter_put, b_BlockWriter_put, 2, none, 0, 0, 1, c_BlockWriter_put, by decide, by decide +kernel, by decide +kernel, by decide +kernel, Or.inl ⟨rfl, by decide, by decide +kernel, by decide +kernel, _, _, rfl, by decide +kernel⟩⟩
  · cases h; exact ⟨y_Letters_length, b_Letters_length, 2, (some .int), 0, 0, 1, c_Letters_length, by decide, by decide +kernel, by decide +kernel, by decide +kernel, (by first | exact Or.inr (Or.inl ⟨rfl, rfl, by decide +kernel, by decide +kernel⟩) | exact Or.inr (Or.inr ⟨rfl, rfl, ⟨"FrameStreams", by decide +kernel⟩, by decide +kernel⟩))⟩
  · cases h; exact ⟨y_Letters_letterAt, b_Letters_letterAt, 2, (some .int), 0, 0, 2, c_Letters_letterAt, by decide, by decide +kernel, by decide +kernel, by decide +kernel, (by first | exact Or.inr (Or.inl ⟨rfl, rfl, by decide +kernel, by decide +kernel⟩) | exact Or.inr (Or.inr ⟨rfl, rfl, ⟨"FrameStreams", by decide +kernel⟩, by decide +kernel⟩))⟩
  · cases h
/-- BlockWriter_putText -/
def sp_BlockWriter_putText : CSp := sRI (fun q x σ K _ => q.1 = 13 ∧ IV σ ∧ ∀ σ', IV σ' → Un [13, 22] σ σ' → K none σ')
set_option maxHeartbeats 4000000 in
set_option maxRecDepth 100000 in
theorem c_BlockWriter_putText : Ctr y_BlockWriter_putText b_BlockWriter_putText 4 none 1 21 0 0 sp_BlockWriter_putText := by
  refine ctr_of (FT := ft_BlockWriter) (GT := gt_BlockWriter_putText) (CT := ct_BlockWriter_putText) (sw := sw_BlockWriter_putText) (rt := 2) (pr := pr_BlockWriter_putText) (by decide) [12] (fun av σ _ _ n pc L st σ' nc ns => ∃ e i x l k, av = [.inr (13, e, i), .inl x] ∧ pc = 12 ∧ L = [some (.inr (13, e, i)), some (.inl x), some (.inl l), some (.inl k)] ∧ st = [] ∧ nc = 0 ∧ ns = 0 ∧ 0 ≤ k ∧ k ≤ l ∧ l ≤ 6 ∧ n = (6 - k).toNat ∧ IV σ' ∧ Un [13, 22] σ σ') 30 ⟨fun h => absurd h (by decide), fun h => absurd h (by decide), fun _ => rfl, fun h => absurd h (by decide)⟩ dk_BlockWriter_putText fo_BlockWriter go_BlockWriter_putText co_BlockWriter_putText (fun a k h hk => by unfold gt_BlockWriter_putText at h; cases h) (fun q hq h => absurd h (nt_BlockWriter_putText q hq)) (fun av σ K kx h => by rw [sRI_len h]; decide) ?_ ?_
  · intro av σ K kx hok hSp
    obtain ⟨q0, x0, rfl, hp⟩ := sRI_inv hSp
    obtain ⟨k0, e0, i0⟩ := q0
    obtain ⟨h0, hI, h2⟩ := hp
    dsimp only at h0; subst h0
    have t1 := tl_rg x0
    refine And.intro rfl (And.intro hI (And.intro (by unfold by8; omega) (fun σ1 I1 U1 => ?_)))
    exact ⟨6, e0, i0, x0, tl x0, 0, rfl, rfl, rfl, rfl, rfl, rfl, by omega, by omega, by omega, rfl, I1, U1⟩
  · intro av σ K kx n pc L st σ' nc ns hok hSp hJ
    obtain ⟨e, i, x, l, k, rfl, rfl, rfl, rfl, rfl, rfl, h0, h6, h7, hn, hI, hU⟩ := hJ
    obtain ⟨-, -, hf⟩ : (13 : Nat) = 13 ∧ IV σ ∧ ∀ σ', IV σ' → Un [13, 22] σ σ' → K none σ' := hSp
    refine And.intro (fun h => ?_) (fun h => ?_)
    · exact hf _ hI hU
    · have t2 := ian_31 (isr x (5 * k))
      refine And.intro rfl (And.intro hI (And.intro (by unfold by8; omega) (fun σ1 I1 U1 => ?_)))
      refine ⟨(6 - (k + 1)).toNat, ?_, e, i, x, l, k + 1, rfl, rfl, rfl, rfl, rfl, rfl, ?_, ?_, ?_, rfl, I1, Un_tr hU U1 rfl⟩ <;> (simp only [nrm] at * <;> omega)
def gt_BlockWriter_putField (a : Nat) : Option Nat := match a with
  | _ => none
theorem go_BlockWriter_putField : ∀ a v, gt_BlockWriter_putField a = some v → StaOK R_BlockWriter a v := by
  intro a v h
  unfold gt_BlockWriter_putField at h
  cases h
def pr_BlockWriter_putField : List Ent := [(0, 5, 0, 0, 0), (1, 39, 18, 0, 0), (4, 3, 1, 0, 0), (5, 3, 2, 0, 0), (6, 46, 62, 0, 0), (9, 7, 3, 0, 0), (10, 3, 3, 0, 0), (11, 26, 0, 0, 24), (14, 5, 0, 0, 0), (15, 2, 0, 128, 0), (18, 3, 3, 0, 0), (19, 12, 0, 0, 0), (20, 46, 43, 0, 0), (23, 49, 0, 0, 0), (24, 5, 0, 0, 0), (25, 39, 18, 0, 0), (28, 3, 1, 0, 0), (29, 46, 66, 0, 0), (32, 8, 4, 0, 0), (34, 5, 0, 0, 0), (35, 1, 0, 64, 0), (37, 4, 4, 0, 0), (39, 12, 0, 0, 0), (40, 46, 43, 0, 0), (43, 4, 4, 0, 0), (45, 27, 0, 0, 53), (48, 5, 0, 0, 0), (49, 3, 1, 0, 0), (50, 46, 69, 0, 0), (53, 5, 0, 0, 0), (54, 3, 2, 0, 0), (55, 46, 69, 0, 0), (58, 5, 0, 0, 0), (59, 39, 18, 0, 0), (62, 3, 1, 0, 0), (63, 3, 2, 0, 0), (64, 46, 72, 0, 0), (67, 49, 0, 0, 0)]
def sw_BlockWriter_putField : List Swt := []
theorem dk_BlockWriter_putField : ∀ q ∈ pr_BlockWriter_putField, decode b_BlockWriter_putField q.1 = .ok (dec sw_BlockWriter_putField q) ∧ okE q = true := by decide +kernel
theorem nt_BlockWriter_putField : ∀ q ∈ pr_BlockWriter_putField, ¬ q.2.1 = 55 := by decide +kernel
def ct_BlockWriter_putField (a : Nat) : Option (Nat × Nat × CSp × Nat × Nat) := match a with
  | 43 => some (2, 2, sp_BlockWriter_put, 0, 0)
  | 62 => some (3, 7, sp_Table_indexOf, 0, 0)
  | 66 => some (2, 7, sp_Table_indexOfName, 0, 0)
  | 69 => some (2, 2, sp_BlockWriter_putText, 0, 0)
  | 72 => some (3, 7, sp_Table_add, 0, 0)
  | _ => none
theorem co_BlockWriter_putField : ∀ a v, ct_BlockWriter_putField a = some v → StcOK R_BlockWriter 3 71 a v := by
  intro a v h
  unfold ct_BlockWriter_putField at h
  split at h
  · cases h; exact ⟨y_BlockWriter_put, b_BlockWriter_put, 2, none, 0, 0, 1, c_BlockWriter_put, by decide, by decide +kernel, by decide +kernel, by decide +kernel, Or.inl ⟨rfl, by decide, by decide +kernel, by decide +kernel, _, _, rfl, by decide +kernel⟩⟩
  · cases h; exact ⟨y_Table_indexOf, b_Table_indexOf, 4, (some .int), 2, 42, 2, c_Table_indexOf, by decide, by decide +kernel, by decide +kernel, by decide +kernel, Or.inl ⟨rfl, by decide, by decide +kernel, by decide +kernel, _, _, rfl, by decide +kernel⟩⟩
  · cases h; exact ⟨y_Table_indexOfName, b_Table_indexOfName, 3, (some .int), 2, 42, 1, c_Table_indexOfName, by decide, by decide +kernel, by decide +kernel, by decide +kernel, Or.inl ⟨rfl, by decide, by decide +kernel, by decide +kernel, _, _, rfl, by decide +kernel⟩⟩
  · cases h; exact ⟨y_BlockWriter_putText, b_BlockWriter_putText, 4, none, 1, 21, 1, c_BlockWriter_putText, by decide, by decide +kernel, by decide +kernel, by decide +kernel, Or.inl ⟨rfl, by decide, by decide +kernel, by decide +kernel, _, _, rfl, by decide +kernel⟩⟩
  · cases h; exact ⟨y_Table_add, b_Table_add, 4, none, 2, 48, 2, c_Table_add, by decide, by decide +kernel, by decide +kernel, by decide +kernel, Or.inl ⟨rfl, by decide, by decide +kernel, by decide +kernel, _, _, rfl, by decide +kernel⟩⟩
  · cases h
/-- BlockWriter_putField -/
def sp_BlockWriter_putField : CSp := sRII (fun q x0 x1 σ K _ => q.1 = 13 ∧ IV σ ∧ ∀ σ', IV σ' → Un [13, 18, 19, 20, 21, 22] σ σ' → K none σ')
set_option maxHeartbeats 4000000 in
set_option maxRecDepth 100000 in
theorem c_BlockWriter_putField : Ctr y_BlockWriter_putField b_BlockWriter_putField 5 none 3 71 0 0 sp_BlockWriter_putField := by
  refine ctr_of (FT := ft_BlockWriter) (GT := gt_BlockWriter_putField) (CT := ct_BlockWriter_putField) (sw := sw_BlockWriter_putField) (rt := 2) (pr := pr_BlockWriter_putField) (by decide) [] (fun _ _ _ _ _ _ _ _ _ _ _ => False) 50 ⟨fun h => absurd h (by decide), fun h => absurd h (by decide), fun _ => rfl, fun h => absurd h (by decide)⟩ dk_BlockWriter_putField fo_BlockWriter go_BlockWriter_putField co_BlockWriter_putField (fun a k h hk => by unfold gt_BlockWriter_putField at h; cases h) (fun q hq h => absurd h (nt_BlockWriter_putField q hq)) (fun av σ K kx h => by rw [sRII_len h]; decide) ?_ ?_
  · intro av σ K kx hok hSp
    obtain ⟨q0, x0, x1, rfl, hp⟩ := sRII_inv hSp
    obtain ⟨k0, e0, i0⟩ := q0
    obtain ⟨h0, hI, h2⟩ := hp
    dsimp only at h0; subst h0
    all_goals (repeat' (first | (with_reducible assumption) | (with_reducible refine IV_upd ?_ ?_) | (with_reducible refine IV_cpy ?_ (fun _ _ _ _ => trivial)) | (refine And.intro ?_ ?_) | (intro _)))
    all_goals first | (first | rfl | decide | exact Or.inl rfl | exact Or.inr (Or.inl rfl) | exact Or.inr (Or.inr rfl) | (simp only [nrm, strm, by8] at * <;> omega) | (simp [upd4, cpy4, nrm, strm, by8] at * <;> omega)) | (exact h2) | (refine h2 _ ?_ ?_ <;> (repeat' (first | assumption | exact trivial | exact Un_rf | (apply by8_4; assumption) | (apply by8_9; assumption) | (apply by8_22; assumption) | (apply by8_g; assumption) | (refine by8_13 ?_) | (apply rg_34; assumption) | (refine ixr_by8 ?_ ?_) | (refine IV_upd ?_ ?_) | (refine Un_upd rfl ?_) | (refine IV_cpy ?_ (fun _ _ _ _ => trivial)) | (refine Un_cpy rfl ?_) | (apply Un_tr; rotate_left; assumption; rfl) | (refine And.intro ?_ ?_))) <;> (first | rfl | decide | exact Or.inl rfl | exact Or.inr (Or.inl rfl) | exact Or.inr (Or.inr rfl) | (simp only [nrm, strm, by8] at * <;> omega) | (simp [upd4, cpy4, nrm, strm, by8] at * <;> omega))) | (apply h2 <;> (repeat' (first | assumption | exact trivial | exact Un_rf | (apply by8_4; assumption) | (apply by8_9; assumption) | (apply by8_22; assumption) | (apply by8_g; assumption) | (refine by8_13 ?_) | (apply rg_34; assumption) | (refine ixr_by8 ?_ ?_) | (refine IV_upd ?_ ?_) | (refine Un_upd rfl ?_) | (refine IV_cpy ?_ (fun _ _ _ _ => trivial)) | (refine Un_cpy rfl ?_) | (apply Un_tr; rotate_left; assumption; rfl) | (refine And.intro ?_ ?_))) <;> (first | rfl | decide | exact Or.inl rfl | exact Or.inr (Or.inl rfl) | exact Or.inr (Or.inr rfl) | (simp only [nrm, strm, by8] at * <;> omega) | (simp [upd4, cpy4, nrm, strm, by8] at * <;> omega))) | ((repeat' (first | assumption | exact trivial | exact Un_rf | (apply by8_4; assumption) | (apply by8_9; assumption) | (apply by8_22; assumption) | (apply by8_g; assumption) | (refine by8_13 ?_) | (apply rg_34; assumption) | (refine ixr_by8 ?_ ?_) | (refine IV_upd ?_ ?_) | (refine Un_upd rfl ?_) | (refine IV_cpy ?_ (fun _ _ _ _ => trivial)) | (refine Un_cpy rfl ?_) | (apply Un_tr; rotate_left; assumption; rfl) | (refine And.intro ?_ ?_))) <;> (first | rfl | decide | exact Or.inl rfl | exact Or.inr (Or.inl rfl) | exact Or.inr (Or.inr rfl) | (simp only [nrm, strm, by8] at * <;> omega) | (simp [upd4, cpy4, nrm, strm, by8] at * <;> omega)))
  · intro av σ K kx n pc L st σ' nc ns _ _ h
    exact (h : False).elim
def gt_BlockWriter_write (a : Nat) : Option Nat := match a with
  | _ => none
theorem go_BlockWriter_write : ∀ a v, gt_BlockWriter_write a = some v → StaOK R_BlockWriter a v := by
  intro a v h
  unfold gt_BlockWriter_write at h
  cases h
def pr_BlockWriter_write : List Ent := [(0, 5, 0, 0, 0), (1, 39, 18, 0, 0), (4, 5, 0, 0, 0), (5, 39, 12, 0, 0), (8, 46, 29, 0, 0), (11, 5, 0, 0, 0), (12, 0, 0, 0, 0), (13, 40, 25, 0, 0), (16, 5, 0, 0, 0), (17, 39, 18, 0, 0), (20, 46, 33, 0, 0), (23, 3, 2, 0, 0), (24, 1, 0, 10, 0), (26, 14, 0, 0, 0), (27, 32, 0, 0, 49), (30, 5, 0, 0, 0), (31, 39, 18, 0, 0), (34, 3, 2, 0, 0), (35, 1, 0, 10, 0), (37, 14, 0, 0, 0), (38, 46, 39, 0, 0), (41, 5, 0, 0, 0), (42, 1, 0, 32, 0), (44, 3, 2, 0, 0), (45, 12, 0, 0, 0), (46, 46, 43, 0, 0), (49, 0, 0, 0, 0), (50, 7, 3, 0, 0), (51, 3, 3, 0, 0), (52, 5, 1, 0, 0), (53, 46, 46, 0, 0), (56, 35, 0, 0, 79), (59, 5, 0, 0, 0), (60, 5, 1, 0, 0), (61, 3, 3, 0, 0), (62, 46, 51, 0, 0), (65, 5, 1, 0, 0), (66, 3, 3, 0, 0), (67, 46, 55, 0, 0), (70, 46, 58, 0, 0), (73, 11, 3, 1, 0), (76, 38, 0, 0, 51), (79, 49, 0, 0, 0)]
def sw_BlockWriter_write : List Swt := []
theorem dk_BlockWriter_write : ∀ q ∈ pr_BlockWriter_write, decode b_BlockWriter_write q.1 = .ok (dec sw_BlockWriter_write q) ∧ okE q = true := by decide +kernel
theorem nt_BlockWriter_write : ∀ q ∈ pr_BlockWriter_write, ¬ q.2.1 = 55 := by decide +kernel
def ct_BlockWriter_write (a : Nat) : Option (Nat × Nat × CSp × Nat × Nat) := match a with
  | 29 => some (2, 7, sp_Table_copyFrom, 0, 0)
  | 33 => some (1, 7, sp_Table_limit, 0, 0)
  | 39 => some (2, 7, sp_Table_changeLimit, 0, 0)
  | 43 => some (2, 2, sp_BlockWriter_put, 0, 0)
  | 46 => some (1, 4, sp_Fields_count, 0, 0)
  | 51 => some (2, 4, sp_Fields_nameAt, 0, 0)
  | 55 => some (2, 4, sp_Fields_valueAt, 0, 0)
  | 58 => some (3, 2, sp_BlockWriter_putField, 0, 0)
  | _ => none
theorem co_BlockWriter_write : ∀ a v, ct_BlockWriter_write a = some v → StcOK R_BlockWriter 4 95 a v := by
  intro a v h
  unfold ct_BlockWriter_write at h
  split at h
  · cases h; exact ⟨y_Table_copyFrom, b_Table_copyFrom, 2, none, 1, 26, 1, c_Table_copyFrom, by decide, by decide +kernel, by decide +kernel, by decide +kernel, Or.inl ⟨rfl, by decide, by decide +kernel, by decide +kernel, _, _, rfl, by decide +kernel⟩⟩
  · cases h; exact ⟨y_Table_limit, b_Table_limit, 1, (some .int), 0, 0, 0, c_Table_limit, by decide, by decide +kernel, by decide +kernel, by decide +kernel, Or.inl ⟨rfl, by decide, by decide +kernel, by decide +kernel, _, _, rfl, by decide +kernel⟩⟩
  · cases h; exact ⟨y_Table_changeLimit, b_Table_changeLimit, 2, none, 2, 48, 1, c_Table_changeLimit, by decide, by decide +kernel, by decide +kernel, by decide +kernel, Or.inl ⟨rfl, by decide, by decide +kernel, by decide +kernel, _, _, rfl, by decide +kernel⟩⟩
  · cases h; exact ⟨y_BlockWriter_put, b_BlockWriter_put, 2, none, 0, 0, 1, c_BlockWriter_put, by decide, by decide +kernel, by decide +kernel, by decide +kernel, Or.inl ⟨rfl, by decide, by decide +kernel, by decide +kernel, _, _, rfl, by decide +kernel⟩⟩
  · cases h; exact ⟨y_Fields_count, b_Fields_count, 1, (some .int), 0, 0, 0, c_Fields_count, by decide, by decide +kernel, by decide +kernel, by decide +kernel, Or.inl ⟨rfl, by decide, by decide +kernel, by decide +kernel, _, _, rfl, by decide +kernel⟩⟩
  · cases h; exact ⟨y_Fields_nameAt, b_Fields_nameAt, 2, (some .int), 0, 0, 1, c_Fields_nameAt, by decide, by decide +kernel, by decide +kernel, by decide +kernel, Or.inl ⟨rfl, by decide, by decide +kernel, by decide +kernel, _, _, rfl, by decide +kernel⟩⟩
  · cases h; exact ⟨y_Fields_valueAt, b_Fields_valueAt, 2, (some .int), 0, 0, 1, c_Fields_valueAt, by decide, by decide +kernel, by decide +kernel, by decide +kernel, Or.inl ⟨rfl, by decide, by decide +kernel, by decide +kernel, _, _, rfl, by decide +kernel⟩⟩
  · cases h; exact ⟨y_BlockWriter_putField, b_BlockWriter_putField, 5, none, 3, 71, 2, c_BlockWriter_putField, by decide, by decide +kernel, by decide +kernel, by decide +kernel, Or.inl ⟨rfl, by decide, by decide +kernel, by decide +kernel, _, _, rfl, by decide +kernel⟩⟩
  · cases h
/-- BlockWriter_write -/
def sp_BlockWriter_write : CSp := sRRI (fun q q1 x σ K _ => q.1 = 13 ∧ kF q1.1 ∧ (0 ≤ x ∧ x ≤ 60) ∧ IV σ ∧ ∀ σ', IV σ' → Un [13, 18, 19, 20, 21, 22] σ σ' → K none σ')
set_option maxHeartbeats 4000000 in
set_option maxRecDepth 100000 in
theorem c_BlockWriter_write : Ctr y_BlockWriter_write b_BlockWriter_write 4 none 4 95 0 0 sp_BlockWriter_write := by
  refine ctr_of (FT := ft_BlockWriter) (GT := gt_BlockWriter_write) (CT := ct_BlockWriter_write) (sw := sw_BlockWriter_write) (rt := 2) (pr := pr_BlockWriter_write) (by decide) [51] (fun av σ _ _ n pc L st σ' nc ns => ∃ e i k1 e1 i1 x j, av = [.inr (13, e, i), .inr (k1, e1, i1), .inl x] ∧ kF k1 ∧ pc = 51 ∧ L = [some (.inr (13, e, i)), some (.inr (k1, e1, i1)), some (.inl x), some (.inl j)] ∧ st = [] ∧ nc = 0 ∧ ns = 0 ∧ 0 ≤ j ∧ j ≤ 5 ∧ n = (5 - j).toNat ∧ IV σ' ∧ Un [13, 18, 19, 20, 21, 22] σ σ') 60 ⟨fun h => absurd h (by decide), fun h => absurd h (by decide), fun _ => rfl, fun h => absurd h (by decide)⟩ dk_BlockWriter_write fo_BlockWriter go_BlockWriter_write co_BlockWriter_write (fun a k h hk => by unfold gt_BlockWriter_write at h; cases h) (fun q hq h => absurd h (nt_BlockWriter_write q hq)) (fun av σ K kx h => by rw [sRRI_len h]; decide) ?_ ?_
  · intro av σ K kx hok hSp
    obtain ⟨q0, q1, x0, rfl, hp⟩ := sRRI_inv hSp
    obtain ⟨k0, e0, i0⟩ := q0
    obtain ⟨k1, e1, i1⟩ := q1
    obtain ⟨h0, h1, h2, hI, h4⟩ := hp
    dsimp only at h0; subst h0
    refine And.intro (Or.inr (Or.inl rfl)) (And.intro (Or.inl rfl) (And.intro hI (fun σ1 I1 U1 => ?_)))
    refine And.intro (Or.inr (Or.inl rfl)) ?_
    have I2 : IV (upd4 σ1 13 e0 i0 3 0) := IV_upd I1 (show (0 : Int) ≤ 0 ∧ (0 : Int) ≤ 76 by omega)
    have U2 : Un [13, 18, 19, 20, 21, 22] σ (upd4 σ1 13 e0 i0 3 0) := Un_upd rfl (Un_wk U1 rfl)
    refine And.intro (fun h => ?_) (fun h => ?_)
    · exact ⟨5, e0, i0, k1, e1, i1, x0, 0, rfl, h1, rfl, rfl, rfl, rfl, rfl, by omega, by omega, rfl, I2, U2⟩
    · refine And.intro (Or.inr (Or.inl rfl)) (And.intro I2 (fun σ3 I3 U3 => ?_))
      refine And.intro rfl (And.intro I3 (And.intro (by unfold by8; omega) (fun σ4 I4 U4 => ?_)))
      exact ⟨5, e0, i0, k1, e1, i1, x0, 0, rfl, h1, rfl, rfl, rfl, rfl, rfl, by omega, by omega, rfl, I4, Un_tr (Un_tr U2 U3 rfl) U4 rfl⟩
  · intro av σ K kx n pc L st σ' nc ns hok hSp hJ
    obtain ⟨e, i, k1, e1, i1, x, j, rfl, hk1, rfl, rfl, rfl, rfl, rfl, h0, h6, hn, hI, hU⟩ := hJ
    obtain ⟨-, -, -, -, hf⟩ : (13 : Nat) = 13 ∧ kF k1 ∧ (0 ≤ x ∧ x ≤ 60) ∧ IV σ ∧ ∀ σ', IV σ' → Un [13, 18, 19, 20, 21, 22] σ σ' → K none σ' := hSp
    have c1 := IV_F hI hk1 e1 i1
    have hk2 := hk1
    rcases hk1 with hk1 | hk1 | hk1
    all_goals subst hk1
    all_goals
      refine And.intro hk2 (And.intro (fun h => ?_) (fun h => ?_))
      · exact hf _ hI hU
      · refine And.intro hk2 (And.intro hI (fun r1 => And.intro hk2 (And.intro hI (fun r2 => And.intro rfl (And.intro hI (fun σ1 I1 U1 => ?_))))))
        refine ⟨(5 - (j + 1)).toNat, ?_, e, i, _, e1, i1, x, j + 1, rfl, hk2, rfl, rfl, rfl, rfl, rfl, ?_, ?_, rfl, I1, Un_tr hU U1 rfl⟩ <;> (simp only [nrm] at * <;> omega)
def gt_BlockWriter_keep (a : Nat) : Option Nat := match a with
  | _ => none
theorem go_BlockWriter_keep : ∀ a v, gt_BlockWriter_keep a = some v → StaOK R_BlockWriter a v := by
  intro a v h
  unfold gt_BlockWriter_keep at h
  cases h
def pr_BlockWriter_keep : List Ent := [(0, 5, 0, 0, 0), (1, 39, 12, 0, 0), (4, 5, 0, 0, 0), (5, 39, 18, 0, 0), (8, 46, 29, 0, 0), (11, 49, 0, 0, 0)]
def sw_BlockWriter_keep : List Swt := []
theorem dk_BlockWriter_keep : ∀ q ∈ pr_BlockWriter_keep, decode b_BlockWriter_keep q.1 = .ok (dec sw_BlockWriter_keep q) ∧ okE q = true := by decide +kernel
theorem nt_BlockWriter_keep : ∀ q ∈ pr_BlockWriter_keep, ¬ q.2.1 = 55 := by decide +kernel
def ct_BlockWriter_keep (a : Nat) : Option (Nat × Nat × CSp × Nat × Nat) := match a with
  | 29 => some (2, 7, sp_Table_copyFrom, 0, 0)
  | _ => none
theorem co_BlockWriter_keep : ∀ a v, ct_BlockWriter_keep a = some v → StcOK R_BlockWriter 2 47 a v := by
  intro a v h
  unfold ct_BlockWriter_keep at h
  split at h
  · cases h; exact ⟨y_Table_copyFrom, b_Table_copyFrom, 2, none, 1, 26, 1, c_Table_copyFrom, by decide, by decide +kernel, by decide +kernel, by decide +kernel, Or.inl ⟨rfl, by decide, by decide +kernel, by decide +kernel, _, _, rfl, by decide +kernel⟩⟩
  · cases h
/-- BlockWriter_keep -/
def sp_BlockWriter_keep : CSp := sR (fun q σ K _ => q.1 = 13 ∧ IV σ ∧ ∀ σ', IV σ' → Un [14, 15, 16, 17] σ σ' → K none σ')
set_option maxHeartbeats 4000000 in
set_option maxRecDepth 100000 in
theorem c_BlockWriter_keep : Ctr y_BlockWriter_keep b_BlockWriter_keep 1 none 2 47 0 0 sp_BlockWriter_keep := by
  refine ctr_of (FT := ft_BlockWriter) (GT := gt_BlockWriter_keep) (CT := ct_BlockWriter_keep) (sw := sw_BlockWriter_keep) (rt := 2) (pr := pr_BlockWriter_keep) (by decide) [] (fun _ _ _ _ _ _ _ _ _ _ _ => False) 20 ⟨fun h => absurd h (by decide), fun h => absurd h (by decide), fun _ => rfl, fun h => absurd h (by decide)⟩ dk_BlockWriter_keep fo_BlockWriter go_BlockWriter_keep co_BlockWriter_keep (fun a k h hk => by unfold gt_BlockWriter_keep at h; cases h) (fun q hq h => absurd h (nt_BlockWriter_keep q hq)) (fun av σ K kx h => by rw [sR_len h]; decide) ?_ ?_
  · intro av σ K kx hok hSp
    obtain ⟨q0, rfl, hp⟩ := sR_inv hSp
    obtain ⟨k0, e0, i0⟩ := q0
    obtain ⟨h0, hI, h2⟩ := hp
    dsimp only at h0; subst h0
    all_goals (repeat' (first | (with_reducible assumption) | (with_reducible refine IV_upd ?_ ?_) | (with_reducible refine IV_cpy ?_ (fun _ _ _ _ => trivial)) | (refine And.intro ?_ ?_) | (intro _)))
    all_goals first | (first | rfl | decide | exact Or.inl rfl | exact Or.inr (Or.inl rfl) | exact Or.inr (Or.inr rfl) | (simp only [nrm, strm, by8] at * <;> omega) | (simp [upd4, cpy4, nrm, strm, by8] at * <;> omega)) | (exact h2) | (refine h2 _ ?_ ?_ <;> (repeat' (first | assumption | exact trivial | exact Un_rf | (apply by8_4; assumption) | (apply by8_9; assumption) | (apply by8_22; assumption) | (apply by8_g; assumption) | (refine by8_13 ?_) | (apply rg_34; assumption) | (refine ixr_by8 ?_ ?_) | (refine IV_upd ?_ ?_) | (refine Un_upd rfl ?_) | (refine IV_cpy ?_ (fun _ _ _ _ => trivial)) | (refine Un_cpy rfl ?_) | (apply Un_tr; rotate_left; assumption; rfl) | (refine And.intro ?_ ?_))) <;> (first | rfl | decide | exact Or.inl rfl | exact Or.inr (Or.inl rfl) | exact Or.inr (Or.inr rfl) | (simp only [nrm, strm, by8] at * <;> omega) | (simp [upd4, cpy4, nrm, strm, by8] at * <;> omega))) | (apply h2 <;> (repeat' (first | assumption | exact trivial | exact Un_rf | (apply by8_4; assumption) | (apply by8_9; assumption) | (apply by8_22; assumption) | (apply by8_g; assumption) | (refine by8_13 ?_) | (apply rg_34; assumption) | (refine ixr_by8 ?_ ?_) | (refine IV_upd ?_ ?_) | (refine Un_upd rfl ?_) | (refine IV_cpy ?_ (fun _ _ _ _ => trivial)) | (refine Un_cpy rfl ?_) | (apply Un_tr; rotate_left; assumption; rfl) | (refine And.intro ?_ ?_))) <;> (first | rfl | decide | exact Or.inl rfl | exact Or.inr (Or.inl rfl) | exact Or.inr (Or.inr rfl) | (simp only [nrm, strm, by8] at * <;> omega) | (simp [upd4, cpy4, nrm, strm, by8] at * <;> omega))) | ((repeat' (first | assumption | exact trivial | exact Un_rf | (apply by8_4; assumption) | (apply by8_9; assumption) | (apply by8_22; assumption) | (apply by8_g; assumption) | (refine by8_13 ?_) | (apply rg_34; assumption) | (refine ixr_by8 ?_ ?_) | (refine IV_upd ?_ ?_) | (refine Un_upd rfl ?_) | (refine IV_cpy ?_ (fun _ _ _ _ => trivial)) | (refine Un_cpy rfl ?_) | (apply Un_tr; rotate_left; assumption; rfl) | (refine And.intro ?_ ?_))) <;> (first | rfl | decide | exact Or.inl rfl | exact Or.inr (Or.inl rfl) | exact Or.inr (Or.inr rfl) | (simp only [nrm, strm, by8] at * <;> omega) | (simp [upd4, cpy4, nrm, strm, by8] at * <;> omega)))
  · intro av σ K kx n pc L st σ' nc ns _ _ h
    exact (h : False).elim
end
section
def ft_BlockReader (a : Nat) : Option (Nat × Nat × Nat) := match a with
  | 12 => some (1, 1, 2)
  | 21 => some (1, 2, 2)
  | 25 => some (1, 3, 0)
  | 29 => some (1, 4, 0)
  | 32 => some (1, 5, 1)
  | 36 => some (1, 0, 2)
  | _ => none
theorem fo_BlockReader : ∀ a v, ft_BlockReader a = some v → FldOK R_BlockReader a v := by
  intro a v h
  unfold ft_BlockReader at h
  split at h
  · cases h; exact fl_BlockReader _ _ _ _ (by decide) (by decide +kernel) (by decide)
  · cases h; exact fl_BlockReader _ _ _ _ (by decide) (by decide +kernel) (by decide)
  · cases h; exact fl_BlockReader _ _ _ _ (by decide) (by decide +kernel) (by decide)
  · cases h; exact fl_BlockReader _ _ _ _ (by decide) (by decide +kernel) (by decide)
  · cases h; exact fl_BlockReader _ _ _ _ (by decide) (by decide +kernel) (by decide)
  · cases h; exact fl_BlockReader _ _ _ _ (by decide) (by decide +kernel) (by decide)
  · cases h
def gt_BlockReader_table (a : Nat) : Option Nat := match a with
  | _ => none
theorem go_BlockReader_table : ∀ a v, gt_BlockReader_table a = some v → StaOK R_BlockReader a v := by
  intro a v h
  unfold gt_BlockReader_table at h
  cases h
def pr_BlockReader_table : List Ent := [(0, 5, 0, 0, 0), (1, 39, 12, 0, 0), (4, 50, 0, 0, 0)]
def sw_BlockReader_table : List Swt := []
theorem dk_BlockReader_table : ∀ q ∈ pr_BlockReader_table, decode b_BlockReader_table q.1 = .ok (dec sw_BlockReader_table q) ∧ okE q = true := by decide +kernel
theorem nt_BlockReader_table : ∀ q ∈ pr_BlockReader_table, ¬ q.2.1 = 55 := by decide +kernel
def ct_BlockReader_table (a : Nat) : Option (Nat × Nat × CSp × Nat × Nat) := match a with
  | _ => none
theorem co_BlockReader_table : ∀ a v, ct_BlockReader_table a = some v → StcOK R_BlockReader 0 0 a v := by
  intro a v h
  unfold ct_BlockReader_table at h
  cases h
/-- BlockReader_table -/
def sp_BlockReader_table : CSp := sR (fun q σ K _ => q.1 = 23 ∧ K (some (.inr (24, q.2.1, q.2.2))) σ)
set_option maxHeartbeats 4000000 in
set_option maxRecDepth 100000 in
theorem c_BlockReader_table : Ctr y_BlockReader_table b_BlockReader_table 1 (some (.object "FrameStreams$Table")) 0 0 0 0 sp_BlockReader_table := by
  refine ctr_of (FT := ft_BlockReader) (GT := gt_BlockReader_table) (CT := ct_BlockReader_table) (sw := sw_BlockReader_table) (rt := 3) (pr := pr_BlockReader_table) (by decide) [] (fun _ _ _ _ _ _ _ _ _ _ _ => False) 20 ⟨fun h => absurd h (by decide), fun h => absurd h (by decide), fun h => absurd h (by decide), fun _ => ⟨_, rfl⟩⟩ dk_BlockReader_table fo_BlockReader go_BlockReader_table co_BlockReader_table (fun a k h hk => by unfold gt_BlockReader_table at h; cases h) (fun q hq h => absurd h (nt_BlockReader_table q hq)) (fun av σ K kx h => by rw [sR_len h]; decide) ?_ ?_
  · intro av σ K kx hok hSp
    obtain ⟨q0, rfl, hp⟩ := sR_inv hSp
    obtain ⟨k0, e0, i0⟩ := q0
    obtain ⟨h0, h1⟩ := hp
    dsimp only at h0; subst h0
    all_goals (repeat' (first | (with_reducible assumption) | (with_reducible refine IV_upd ?_ ?_) | (with_reducible refine IV_cpy ?_ (fun _ _ _ _ => trivial)) | (refine And.intro ?_ ?_) | (intro _)))
    all_goals first | (first | rfl | decide | exact Or.inl rfl | exact Or.inr (Or.inl rfl) | exact Or.inr (Or.inr rfl) | (simp only [nrm, strm, by8] at * <;> omega) | (simp [upd4, cpy4, nrm, strm, by8] at * <;> omega)) | (exact h1 (by first | assumption | (first | rfl | decide | exact Or.inl rfl | exact Or.inr (Or.inl rfl) | exact Or.inr (Or.inr rfl) | (simp only [nrm, strm, by8] at * <;> omega) | (simp [upd4, cpy4, nrm, strm, by8] at * <;> omega)))) | (exact h1) | (refine h1 _ ?_ ?_ <;> (repeat' (first | assumption | exact trivial | exact Un_rf | (apply by8_4; assumption) | (apply by8_9; assumption) | (apply by8_22; assumption) | (apply by8_g; assumption) | (refine by8_13 ?_) | (apply rg_34; assumption) | (refine ixr_by8 ?_ ?_) | (refine IV_upd ?_ ?_) | (refine Un_upd rfl ?_) | (refine IV_cpy ?_ (fun _ _ _ _ => trivial)) | (refine Un_cpy rfl ?_) | (apply Un_tr; rotate_left; assumption; rfl) | (refine And.intro ?_ ?_))) <;> (first | rfl | decide | exact Or.inl rfl | exact Or.inr (Or.inl rfl) | exact Or.inr (Or.inr rfl) | (simp only [nrm, strm, by8] at * <;> omega) | (simp [upd4, cpy4, nrm, strm, by8] at * <;> omega))) | (apply h1 <;> (repeat' (first | assumption | exact trivial | exact Un_rf | (apply by8_4; assumption) | (apply by8_9; assumption) | (apply by8_22; assumption) | (apply by8_g; assumption) | (refine by8_13 ?_) | (apply rg_34; assumption) | (refine ixr_by8 ?_ ?_) | (refine IV_upd ?_ ?_) | (refine Un_upd rfl ?_) | (refine IV_cpy ?_ (fun _ _ _ _ => trivial)) | (refine Un_cpy rfl ?_) | (apply Un_tr; rotate_left; assumption; rfl) | (refine And.intro ?_ ?_))) <;> (first | rfl | decide | exact Or.inl rfl | exact Or.inr (Or.inl rfl) | exact Or.inr (Or.inr rfl) | (simp only [nrm, strm, by8] at * <;> omega) | (simp [upd4, cpy4, nrm, strm, by8] at * <;> omega))) | ((repeat' (first | assumption | exact trivial | exact Un_rf | (apply by8_4; assumption) | (apply by8_9; assumption) | (apply by8_22; assumption) | (apply by8_g; assumption) | (refine by8_13 ?_) | (apply rg_34; assumption) | (refine ixr_by8 ?_ ?_) | (refine IV_upd ?_ ?_) | (refine Un_upd rfl ?_) | (refine IV_cpy ?_ (fun _ _ _ _ => trivial)) | (refine Un_cpy rfl ?_) | (apply Un_tr; rotate_left; assumption; rfl) | (refine And.intro ?_ ?_))) <;> (first | rfl | decide | exact Or.inl rfl | exact Or.inr (Or.inl rfl) | exact Or.inr (Or.inr rfl) | (simp only [nrm, strm, by8] at * <;> omega) | (simp [upd4, cpy4, nrm, strm, by8] at * <;> omega)))
  · intro av σ K kx n pc L st σ' nc ns _ _ h
    exact (h : False).elim
def gt_BlockReader_fields (a : Nat) : Option Nat := match a with
  | _ => none
theorem go_BlockReader_fields : ∀ a v, gt_BlockReader_fields a = some v → StaOK R_BlockReader a v := by
  intro a v h
  unfold gt_BlockReader_fields at h
  cases h
def pr_BlockReader_fields : List Ent := [(0, 5, 0, 0, 0), (1, 39, 21, 0, 0), (4, 50, 0, 0, 0)]
def sw_BlockReader_fields : List Swt := []
theorem dk_BlockReader_fields : ∀ q ∈ pr_BlockReader_fields, decode b_BlockReader_fields q.1 = .ok (dec sw_BlockReader_fields q) ∧ okE q = true := by decide +kernel
theorem nt_BlockReader_fields : ∀ q ∈ pr_BlockReader_fields, ¬ q.2.1 = 55 := by decide +kernel
def ct_BlockReader_fields (a : Nat) : Option (Nat × Nat × CSp × Nat × Nat) := match a with
  | _ => none
theorem co_BlockReader_fields : ∀ a v, ct_BlockReader_fields a = some v → StcOK R_BlockReader 0 0 a v := by
  intro a v h
  unfold ct_BlockReader_fields at h
  cases h
/-- BlockReader_fields -/
def sp_BlockReader_fields : CSp := sR (fun q σ K _ => q.1 = 23 ∧ K (some (.inr (28, q.2.1, q.2.2))) σ)
set_option maxHeartbeats 4000000 in
set_option maxRecDepth 100000 in
theorem c_BlockReader_fields : Ctr y_BlockReader_fields b_BlockReader_fields 1 (some (.object "FrameStreams$Fields")) 0 0 0 0 sp_BlockReader_fields := by
  refine ctr_of (FT := ft_BlockReader) (GT := gt_BlockReader_fields) (CT := ct_BlockReader_fields) (sw := sw_BlockReader_fields) (rt := 3) (pr := pr_BlockReader_fields) (by decide) [] (fun _ _ _ _ _ _ _ _ _ _ _ => False) 20 ⟨fun h => absurd h (by decide), fun h => absurd h (by decide), fun h => absurd h (by decide), fun _ => ⟨_, rfl⟩⟩ dk_BlockReader_fields fo_BlockReader go_BlockReader_fields co_BlockReader_fields (fun a k h hk => by unfold gt_BlockReader_fields at h; cases h) (fun q hq h => absurd h (nt_BlockReader_fields q hq)) (fun av σ K kx h => by rw [sR_len h]; decide) ?_ ?_
  · intro av σ K kx hok hSp
    obtain ⟨q0, rfl, hp⟩ := sR_inv hSp
    obtain ⟨k0, e0, i0⟩ := q0
    obtain ⟨h0, h1⟩ := hp
    dsimp only at h0; subst h0
    all_goals (repeat' (first | (with_reducible assumption) | (with_reducible refine IV_upd ?_ ?_) | (with_reducible refine IV_cpy ?_ (fun _ _ _ _ => trivial)) | (refine And.intro ?_ ?_) | (intro _)))
    all_goals first | (first | rfl | decide | exact Or.inl rfl | exact Or.inr (Or.inl rfl) | exact Or.inr (Or.inr rfl) | (simp only [nrm, strm, by8] at * <;> omega) | (simp [upd4, cpy4, nrm, strm, by8] at * <;> omega)) | (exact h1 (by first | assumption | (first | rfl | decide | exact Or.inl rfl | exact Or.inr (Or.inl rfl) | exact Or.inr (Or.inr rfl) | (simp only [nrm, strm, by8] at * <;> omega) | (simp [upd4, cpy4, nrm, strm, by8] at * <;> omega)))) | (exact h1) | (refine h1 _ ?_ ?_ <;> (repeat' (first | assumption | exact trivial | exact Un_rf | (apply by8_4; assumption) | (apply by8_9; assumption) | (apply by8_22; assumption) | (apply by8_g; assumption) | (refine by8_13 ?_) | (apply rg_34; assumption) | (refine ixr_by8 ?_ ?_) | (refine IV_upd ?_ ?_) | (refine Un_upd rfl ?_) | (refine IV_cpy ?_ (fun _ _ _ _ => trivial)) | (refine Un_cpy rfl ?_) | (apply Un_tr; rotate_left; assumption; rfl) | (refine And.intro ?_ ?_))) <;> (first | rfl | decide | exact Or.inl rfl | exact Or.inr (Or.inl rfl) | exact Or.inr (Or.inr rfl) | (simp only [nrm, strm, by8] at * <;> omega) | (simp [upd4, cpy4, nrm, strm, by8] at * <;> omega))) | (apply h1 <;> (repeat' (first | assumption | exact trivial | exact Un_rf | (apply by8_4; assumption) | (apply by8_9; assumption) | (apply by8_22; assumption) | (apply by8_g; assumption) | (refine by8_13 ?_) | (apply rg_34; assumption) | (refine ixr_by8 ?_ ?_) | (refine IV_upd ?_ ?_) | (refine Un_upd rfl ?_) | (refine IV_cpy ?_ (fun _ _ _ _ => trivial)) | (refine Un_cpy rfl ?_) | (apply Un_tr; rotate_left; assumption; rfl) | (refine And.intro ?_ ?_))) <;> (first | rfl | decide | exact Or.inl rfl | exact Or.inr (Or.inl rfl) | exact Or.inr (Or.inr rfl) | (simp only [nrm, strm, by8] at * <;> omega) | (simp [upd4, cpy4, nrm, strm, by8] at * <;> omega))) | ((repeat' (first | assumption | exact trivial | exact Un_rf | (apply by8_4; assumption) | (apply by8_9; assumption) | (apply by8_22; assumption) | (apply by8_g; assumption) | (refine by8_13 ?_) | (apply rg_34; assumption) | (refine ixr_by8 ?_ ?_) | (refine IV_upd ?_ ?_) | (refine Un_upd rfl ?_) | (refine IV_cpy ?_ (fun _ _ _ _ => trivial)) | (refine Un_cpy rfl ?_) | (apply Un_tr; rotate_left; assumption; rfl) | (refine And.intro ?_ ?_))) <;> (first | rfl | decide | exact Or.inl rfl | exact Or.inr (Or.inl rfl) | exact Or.inr (Or.inr rfl) | (simp only [nrm, strm, by8] at * <;> omega) | (simp [upd4, cpy4, nrm, strm, by8] at * <;> omega)))
  · intro av σ K kx n pc L st σ' nc ns _ _ h
    exact (h : False).elim
def gt_BlockReader_hasMore (a : Nat) : Option Nat := match a with
  | _ => none
theorem go_BlockReader_hasMore : ∀ a v, gt_BlockReader_hasMore a = some v → StaOK R_BlockReader a v := by
  intro a v h
  unfold gt_BlockReader_hasMore at h
  cases h
def pr_BlockReader_hasMore : List Ent := [(0, 5, 0, 0, 0), (1, 39, 32, 0, 0), (4, 27, 0, 0, 22), (7, 5, 0, 0, 0), (8, 39, 25, 0, 0), (11, 5, 0, 0, 0), (12, 39, 29, 0, 0), (15, 35, 0, 0, 22), (18, 0, 0, 1, 0), (19, 38, 0, 0, 23), (22, 0, 0, 0, 0), (23, 48, 0, 0, 0)]
def sw_BlockReader_hasMore : List Swt := []
theorem dk_BlockReader_hasMore : ∀ q ∈ pr_BlockReader_hasMore, decode b_BlockReader_hasMore q.1 = .ok (dec sw_BlockReader_hasMore q) ∧ okE q = true := by decide +kernel
theorem nt_BlockReader_hasMore : ∀ q ∈ pr_BlockReader_hasMore, ¬ q.2.1 = 55 := by decide +kernel
def ct_BlockReader_hasMore (a : Nat) : Option (Nat × Nat × CSp × Nat × Nat) := match a with
  | _ => none
theorem co_BlockReader_hasMore : ∀ a v, ct_BlockReader_hasMore a = some v → StcOK R_BlockReader 0 0 a v := by
  intro a v h
  unfold ct_BlockReader_hasMore at h
  cases h
/-- BlockReader_hasMore -/
def sp_BlockReader_hasMore : CSp := sR (fun q σ K _ => q.1 = 23 ∧ K (some (.inl 0)) σ ∧ K (some (.inl 1)) σ)
set_option maxHeartbeats 4000000 in
set_option maxRecDepth 100000 in
theorem c_BlockReader_hasMore : Ctr y_BlockReader_hasMore b_BlockReader_hasMore 1 (some .boolean) 0 0 0 0 sp_BlockReader_hasMore := by
  refine ctr_of (FT := ft_BlockReader) (GT := gt_BlockReader_hasMore) (CT := ct_BlockReader_hasMore) (sw := sw_BlockReader_hasMore) (rt := 1) (pr := pr_BlockReader_hasMore) (by decide) [] (fun _ _ _ _ _ _ _ _ _ _ _ => False) 30 ⟨fun h => absurd h (by decide), fun _ => rfl, fun h => absurd h (by decide), fun h => absurd h (by decide)⟩ dk_BlockReader_hasMore fo_BlockReader go_BlockReader_hasMore co_BlockReader_hasMore (fun a k h hk => by unfold gt_BlockReader_hasMore at h; cases h) (fun q hq h => absurd h (nt_BlockReader_hasMore q hq)) (fun av σ K kx h => by rw [sR_len h]; decide) ?_ ?_
  · intro av σ K kx hok hSp
    obtain ⟨q0, rfl, hp⟩ := sR_inv hSp
    obtain ⟨k0, e0, i0⟩ := q0
    obtain ⟨h0, h1, h2⟩ := hp
    dsimp only at h0; subst h0
    all_goals (repeat' (first | (with_reducible assumption) | (with_reducible refine IV_upd ?_ ?_) | (with_reducible refine IV_cpy ?_ (fun _ _ _ _ => trivial)) | (refine And.intro ?_ ?_) | (intro _)))
    all_goals first | (first | rfl | decide | exact Or.inl rfl | exact Or.inr (Or.inl rfl) | exact Or.inr (Or.inr rfl) | (simp only [nrm, strm, by8] at * <;> omega) | (simp [upd4, cpy4, nrm, strm, by8] at * <;> omega)) | (exact h1 (by first | assumption | (first | rfl | decide | exact Or.inl rfl | exact Or.inr (Or.inl rfl) | exact Or.inr (Or.inr rfl) | (simp only [nrm, strm, by8] at * <;> omega) | (simp [upd4, cpy4, nrm, strm, by8] at * <;> omega)))) | (exact h2 (by first | assumption | (first | rfl | decide | exact Or.inl rfl | exact Or.inr (Or.inl rfl) | exact Or.inr (Or.inr rfl) | (simp only [nrm, strm, by8] at * <;> omega) | (simp [upd4, cpy4, nrm, strm, by8] at * <;> omega)))) | (exact h1) | (exact h2) | (refine h1 _ ?_ ?_ <;> (repeat' (first | assumption | exact trivial | exact Un_rf | (apply by8_4; assumption) | (apply by8_9; assumption) | (apply by8_22; assumption) | (apply by8_g; assumption) | (refine by8_13 ?_) | (apply rg_34; assumption) | (refine ixr_by8 ?_ ?_) | (refine IV_upd ?_ ?_) | (refine Un_upd rfl ?_) | (refine IV_cpy ?_ (fun _ _ _ _ => trivial)) | (refine Un_cpy rfl ?_) | (apply Un_tr; rotate_left; assumption; rfl) | (refine And.intro ?_ ?_))) <;> (first | rfl | decide | exact Or.inl rfl | exact Or.inr (Or.inl rfl) | exact Or.inr (Or.inr rfl) | (simp only [nrm, strm, by8] at * <;> omega) | (simp [upd4, cpy4, nrm, strm, by8] at * <;> omega))) | (refine h2 _ ?_ ?_ <;> (repeat' (first | assumption | exact trivial | exact Un_rf | (apply by8_4; assumption) | (apply by8_9; assumption) | (apply by8_22; assumption) | (apply by8_g; assumption) | (refine by8_13 ?_) | (apply rg_34; assumption) | (refine ixr_by8 ?_ ?_) | (refine IV_upd ?_ ?_) | (refine Un_upd rfl ?_) | (refine IV_cpy ?_ (fun _ _ _ _ => trivial)) | (refine Un_cpy rfl ?_) | (apply Un_tr; rotate_left; assumption; rfl) | (refine And.intro ?_ ?_))) <;> (first | rfl | decide | exact Or.inl rfl | exact Or.inr (Or.inl rfl) | exact Or.inr (Or.inr rfl) | (simp only [nrm, strm, by8] at * <;> omega) | (simp [upd4, cpy4, nrm, strm, by8] at * <;> omega))) | (apply h1 <;> (repeat' (first | assumption | exact trivial | exact Un_rf | (apply by8_4; assumption) | (apply by8_9; assumption) | (apply by8_22; assumption) | (apply by8_g; assumption) | (refine by8_13 ?_) | (apply rg_34; assumption) | (refine ixr_by8 ?_ ?_) | (refine IV_upd ?_ ?_) | (refine Un_upd rfl ?_) | (refine IV_cpy ?_ (fun _ _ _ _ => trivial)) | (refine Un_cpy rfl ?_) | (apply Un_tr; rotate_left; assumption; rfl) | (refine And.intro ?_ ?_))) <;> (first | rfl | decide | exact Or.inl rfl | exact Or.inr (Or.inl rfl) | exact Or.inr (Or.inr rfl) | (simp only [nrm, strm, by8] at * <;> omega) | (simp [upd4, cpy4, nrm, strm, by8] at * <;> omega))) | (apply h2 <;> (repeat' (first | assumption | exact trivial | exact Un_rf | (apply by8_4; assumption) | (apply by8_9; assumption) | (apply by8_22; assumption) | (apply by8_g; assumption) | (refine by8_13 ?_) | (apply rg_34; assumption) | (refine ixr_by8 ?_ ?_) | (refine IV_upd ?_ ?_) | (refine Un_upd rfl ?_) | (refine IV_cpy ?_ (fun _ _ _ _ => trivial)) | (refine Un_cpy rfl ?_) | (apply Un_tr; rotate_left; assumption; rfl) | (refine And.intro ?_ ?_))) <;> (first | rfl | decide | exact Or.inl rfl | exact Or.inr (Or.inl rfl) | exact Or.inr (Or.inr rfl) | (simp only [nrm, strm, by8] at * <;> omega) | (simp [upd4, cpy4, nrm, strm, by8] at * <;> omega))) | ((repeat' (first | assumption | exact trivial | exact Un_rf | (apply by8_4; assumption) | (apply by8_9; assumption) | (apply by8_22; assumption) | (apply by8_g; assumption) | (refine by8_13 ?_) | (apply rg_34; assumption) | (refine ixr_by8 ?_ ?_) | (refine IV_upd ?_ ?_) | (refine Un_upd rfl ?_) | (refine IV_cpy ?_ (fun _ _ _ _ => trivial)) | (refine Un_cpy rfl ?_) | (apply Un_tr; rotate_left; assumption; rfl) | (refine And.intro ?_ ?_))) <;> (first | rfl | decide | exact Or.inl rfl | exact Or.inr (Or.inl rfl) | exact Or.inr (Or.inr rfl) | (simp only [nrm, strm, by8] at * <;> omega) | (simp [upd4, cpy4, nrm, strm, by8] at * <;> omega)))
  · intro av σ K kx n pc L st σ' nc ns _ _ h
    exact (h : False).elim
def gt_BlockReader_nextByte (a : Nat) : Option Nat := match a with
  | _ => none
theorem go_BlockReader_nextByte : ∀ a v, gt_BlockReader_nextByte a = some v → StaOK R_BlockReader a v := by
  intro a v h
  unfold gt_BlockReader_nextByte at h
  cases h
def pr_BlockReader_nextByte : List Ent := [(0, 5, 0, 0, 0), (1, 39, 25, 0, 0), (4, 5, 0, 0, 0), (5, 39, 29, 0, 0), (8, 34, 0, 0, 18), (11, 5, 0, 0, 0), (12, 0, 0, 1, 0), (13, 40, 32, 0, 0), (16, 0, 0, 0, 0), (17, 48, 0, 0, 0), (18, 5, 0, 0, 0), (19, 39, 36, 0, 0), (22, 5, 0, 0, 0), (23, 39, 25, 0, 0), (26, 46, 59, 0, 0), (29, 7, 1, 0, 0), (30, 5, 0, 0, 0), (31, 23, 0, 0, 0), (32, 39, 25, 0, 0), (35, 0, 0, 1, 0), (36, 12, 0, 0, 0), (37, 40, 25, 0, 0), (40, 3, 1, 0, 0), (41, 48, 0, 0, 0)]
def sw_BlockReader_nextByte : List Swt := []
theorem dk_BlockReader_nextByte : ∀ q ∈ pr_BlockReader_nextByte, decode b_BlockReader_nextByte q.1 = .ok (dec sw_BlockReader_nextByte q) ∧ okE q = true := by decide +kernel
theorem nt_BlockReader_nextByte : ∀ q ∈ pr_BlockReader_nextByte, ¬ q.2.1 = 55 := by decide +kernel
def ct_BlockReader_nextByte (a : Nat) : Option (Nat × Nat × CSp × Nat × Nat) := match a with
  | 59 => some (2, 5, sp_Frame_at, 0, 0)
  | _ => none
theorem co_BlockReader_nextByte : ∀ a v, ct_BlockReader_nextByte a = some v → StcOK R_BlockReader 1 21 a v := by
  intro a v h
  unfold ct_BlockReader_nextByte at h
  split at h
  · cases h; exact ⟨y_Frame_at, b_Frame_at, 2, (some .int), 0, 0, 1, c_Frame_at, by decide, by decide +kernel, by decide +kernel, by decide +kernel, Or.inl ⟨rfl, by decide, by decide +kernel, by decide +kernel, _, _, rfl, by decide +kernel⟩⟩
  · cases h
/-- BlockReader_nextByte -/
def sp_BlockReader_nextByte : CSp := sR (fun q σ K _ => q.1 = 23 ∧ IV σ ∧ ∀ r σ', by8 r → IV σ' → Un [23] σ σ' → K (some (.inl r)) σ')
set_option maxHeartbeats 4000000 in
set_option maxRecDepth 100000 in
theorem c_BlockReader_nextByte : Ctr y_BlockReader_nextByte b_BlockReader_nextByte 2 (some .int) 1 21 0 0 sp_BlockReader_nextByte := by
  refine ctr_of (FT := ft_BlockReader) (GT := gt_BlockReader_nextByte) (CT := ct_BlockReader_nextByte) (sw := sw_BlockReader_nextByte) (rt := 0) (pr := pr_BlockReader_nextByte) (by decide) [] (fun _ _ _ _ _ _ _ _ _ _ _ => False) 40 ⟨fun _ => rfl, fun h => absurd h (by decide), fun h => absurd h (by decide), fun h => absurd h (by decide)⟩ dk_BlockReader_nextByte fo_BlockReader go_BlockReader_nextByte co_BlockReader_nextByte (fun a k h hk => by unfold gt_BlockReader_nextByte at h; cases h) (fun q hq h => absurd h (nt_BlockReader_nextByte q hq)) (fun av σ K kx h => by rw [sR_len h]; decide) ?_ ?_
  · intro av σ K kx hok hSp
    obtain ⟨q0, rfl, hp⟩ := sR_inv hSp
    obtain ⟨k0, e0, i0⟩ := q0
    obtain ⟨h0, hI, h2⟩ := hp
    dsimp only at h0; subst h0
    all_goals (repeat' (first | (with_reducible assumption) | (with_reducible refine IV_upd ?_ ?_) | (with_reducible refine IV_cpy ?_ (fun _ _ _ _ => trivial)) | (refine And.intro ?_ ?_) | (intro _)))
    all_goals first | (first | rfl | decide | exact Or.inl rfl | exact Or.inr (Or.inl rfl) | exact Or.inr (Or.inr rfl) | (simp only [nrm, strm, by8] at * <;> omega) | (simp [upd4, cpy4, nrm, strm, by8] at * <;> omega)) | (exact h2) | (refine h2 _ ?_ ?_ <;> (repeat' (first | assumption | exact trivial | exact Un_rf | (apply by8_4; assumption) | (apply by8_9; assumption) | (apply by8_22; assumption) | (apply by8_g; assumption) | (refine by8_13 ?_) | (apply rg_34; assumption) | (refine ixr_by8 ?_ ?_) | (refine IV_upd ?_ ?_) | (refine Un_upd rfl ?_) | (refine IV_cpy ?_ (fun _ _ _ _ => trivial)) | (refine Un_cpy rfl ?_) | (apply Un_tr; rotate_left; assumption; rfl) | (refine And.intro ?_ ?_))) <;> (first | rfl | decide | exact Or.inl rfl | exact Or.inr (Or.inl rfl) | exact Or.inr (Or.inr rfl) | (simp only [nrm, strm, by8] at * <;> omega) | (simp [upd4, cpy4, nrm, strm, by8] at * <;> omega))) | (apply h2 <;> (repeat' (first | assumption | exact trivial | exact Un_rf | (apply by8_4; assumption) | (apply by8_9; assumption) | (apply by8_22; assumption) | (apply by8_g; assumption) | (refine by8_13 ?_) | (apply rg_34; assumption) | (refine ixr_by8 ?_ ?_) | (refine IV_upd ?_ ?_) | (refine Un_upd rfl ?_) | (refine IV_cpy ?_ (fun _ _ _ _ => trivial)) | (refine Un_cpy rfl ?_) | (apply Un_tr; rotate_left; assumption; rfl) | (refine And.intro ?_ ?_))) <;> (first | rfl | decide | exact Or.inl rfl | exact Or.inr (Or.inl rfl) | exact Or.inr (Or.inr rfl) | (simp only [nrm, strm, by8] at * <;> omega) | (simp [upd4, cpy4, nrm, strm, by8] at * <;> omega))) | ((repeat' (first | assumption | exact trivial | exact Un_rf | (apply by8_4; assumption) | (apply by8_9; assumption) | (apply by8_22; assumption) | (apply by8_g; assumption) | (refine by8_13 ?_) | (apply rg_34; assumption) | (refine ixr_by8 ?_ ?_) | (refine IV_upd ?_ ?_) | (refine Un_upd rfl ?_) | (refine IV_cpy ?_ (fun _ _ _ _ => trivial)) | (refine Un_cpy rfl ?_) | (apply Un_tr; rotate_left; assumption; rfl) | (refine And.intro ?_ ?_))) <;> (first | rfl | decide | exact Or.inl rfl | exact Or.inr (Or.inl rfl) | exact Or.inr (Or.inr rfl) | (simp only [nrm, strm, by8] at * <;> omega) | (simp [upd4, cpy4, nrm, strm, by8] at * <;> omega)))
  · intro av σ K kx n pc L st σ' nc ns _ _ h
    exact (h : False).elim
def gt_BlockReader_readText (a : Nat) : Option Nat := match a with
  | _ => none
theorem go_BlockReader_readText : ∀ a v, gt_BlockReader_readText a = some v → StaOK R_BlockReader a v := by
  intro a v h
  unfold gt_BlockReader_readText at h
  cases h
def pr_BlockReader_readText : List Ent := [(0, 5, 0, 0, 0), (1, 46, 68, 0, 0), (4, 7, 1, 0, 0), (5, 3, 1, 0, 0), (6, 1, 0, 6, 0), (8, 37, 0, 0, 16), (11, 5, 0, 0, 0), (12, 0, 0, 1, 0), (13, 40, 32, 0, 0), (16, 0, 0, 0, 0), (17, 7, 2, 0, 0), (18, 0, 0, 0, 0), (19, 7, 3, 0, 0), (20, 3, 3, 0, 0), (21, 3, 1, 0, 0), (22, 35, 0, 0, 67), (25, 5, 0, 0, 0), (26, 39, 32, 0, 0), (29, 27, 0, 0, 67), (32, 5, 0, 0, 0), (33, 46, 68, 0, 0), (36, 8, 4, 0, 0), (38, 4, 4, 0, 0), (40, 47, 94, 0, 0), (43, 26, 0, 0, 56), (46, 3, 2, 0, 0), (47, 4, 4, 0, 0), (49, 47, 97, 0, 0), (52, 7, 2, 0, 0), (53, 38, 0, 0, 61), (56, 5, 0, 0, 0), (57, 0, 0, 1, 0), (58, 40, 32, 0, 0), (61, 11, 3, 1, 0), (64, 38, 0, 0, 20), (67, 3, 2, 0, 0), (68, 48, 0, 0, 0)]
def sw_BlockReader_readText : List Swt := []
theorem dk_BlockReader_readText : ∀ q ∈ pr_BlockReader_readText, decode b_BlockReader_readText q.1 = .ok (dec sw_BlockReader_readText q) ∧ okE q = true := by decide +kernel
theorem nt_BlockReader_readText : ∀ q ∈ pr_BlockReader_readText, ¬ q.2.1 = 55 := by decide +kernel
def ct_BlockReader_readText (a : Nat) : Option (Nat × Nat × CSp × Nat × Nat) := match a with
  | 68 => some (1, 1, sp_BlockReader_nextByte, 0, 0)
  | 94 => some (1, 1000, sp_Letters_isLetter, 0, 0)
  | 97 => some (2, 1000, sp_Letters_append, 0, 0)
  | _ => none
theorem co_BlockReader_readText : ∀ a v, ct_BlockReader_readText a = some v → StcOK R_BlockReader 2 42 a v := by
  intro a v h
  unfold ct_BlockReader_readText at h
  split at h
  · cases h; exact ⟨y_BlockReader_nextByte, b_BlockReader_nextByte, 2, (some .int), 1, 21, 0, c_BlockReader_nextByte, by decide, by decide +kernel, by decide +kernel, by decide +kernel, Or.inl ⟨rfl, by decide, by decide +kernel, by decide +kernel, _, _, rfl, by decide +kernel⟩⟩
  · cases h; exact ⟨y_Letters_isLetter, b_Letters_isLetter, 1, (some .boolean), 0, 0, 1, c_Letters_isLetter, by decide, by decide +kernel, by decide +kernel, by decide +kernel, (by first | exact Or.inr (Or.inl ⟨rfl, rfl, by decide +kernel, by decide +kernel⟩) | exact Or.inr (Or.inr ⟨rfl, rfl, ⟨"FrameStreams", by decide +kernel⟩, by decide +kernel⟩))⟩
  · cases h; exact ⟨y_Letters_append, b_Letters_append, 2, (some .int), 1, 21, 2, c_Letters_append, by decide, by decide +kernel, by decide +kernel, by decide +kernel, (by first | exact Or.inr (Or.inl ⟨rfl, rfl, by decide +kernel, by decide +kernel⟩) | exact Or.inr (Or.inr ⟨rfl, rfl, ⟨"FrameStreams", by decide +kernel⟩, by decide +kernel⟩))⟩
  · cases h
/-- BlockReader_readText -/
def sp_BlockReader_readText : CSp := sR (fun q σ K _ => q.1 = 23 ∧ IV σ ∧ ∀ r σ', IV σ' → Un [23] σ σ' → K (some (.inl r)) σ')
set_option maxHeartbeats 4000000 in
set_option maxRecDepth 100000 in
theorem c_BlockReader_readText : Ctr y_BlockReader_readText b_BlockReader_readText 5 (some .int) 2 42 0 0 sp_BlockReader_readText := by
  refine ctr_of (FT := ft_BlockReader) (GT := gt_BlockReader_readText) (CT := ct_BlockReader_readText) (sw := sw_BlockReader_readText) (rt := 0) (pr := pr_BlockReader_readText) (by decide) [20] (fun av σ _ _ n pc L st σ' nc ns => ∃ e i l t k o, av = [.inr (23, e, i)] ∧ pc = 20 ∧ L = [some (.inr (23, e, i)), some (.inl l), some (.inl t), some (.inl k), o] ∧ st = [] ∧ nc = 0 ∧ ns = 0 ∧ by8 l ∧ 0 ≤ k ∧ k ≤ 255 ∧ n = (255 - k).toNat ∧ IV σ' ∧ Un [23] σ σ') 50 ⟨fun _ => rfl, fun h => absurd h (by decide), fun h => absurd h (by decide), fun h => absurd h (by decide)⟩ dk_BlockReader_readText fo_BlockReader go_BlockReader_readText co_BlockReader_readText (fun a k h hk => by unfold gt_BlockReader_readText at h; cases h) (fun q hq h => absurd h (nt_BlockReader_readText q hq)) (fun av σ K kx h => by rw [sR_len h]; decide) ?_ ?_
  · intro av σ K kx hok hSp
    obtain ⟨q0, rfl, hp⟩ := sR_inv hSp
    obtain ⟨k0, e0, i0⟩ := q0
    obtain ⟨h0, hI, hf⟩ := hp
    dsimp only at h0; subst h0
    all_goals (repeat' (first | (with_reducible assumption) | (with_reducible refine IV_upd ?_ ?_) | (with_reducible refine IV_cpy ?_ (fun _ _ _ _ => trivial)) | (refine And.intro ?_ ?_) | (intro _)))
    all_goals first | (first | rfl | decide | exact Or.inl rfl | exact Or.inr (Or.inl rfl) | exact Or.inr (Or.inr rfl) | (simp only [nrm, strm, by8] at * <;> omega) | (simp [upd4, cpy4, nrm, strm, by8] at * <;> omega)) | (apply hf <;> (repeat' (first | assumption | exact trivial | exact Un_rf | (apply by8_4; assumption) | (apply by8_9; assumption) | (apply by8_22; assumption) | (apply by8_g; assumption) | (refine by8_13 ?_) | (apply rg_34; assumption) | (refine ixr_by8 ?_ ?_) | (refine IV_upd ?_ ?_) | (refine Un_upd rfl ?_) | (refine IV_cpy ?_ (fun _ _ _ _ => trivial)) | (refine Un_cpy rfl ?_) | (apply Un_tr; rotate_left; assumption; rfl) | (refine And.intro ?_ ?_))) <;> (first | rfl | decide | exact Or.inl rfl | exact Or.inr (Or.inl rfl) | exact Or.inr (Or.inr rfl) | (simp only [nrm, strm, by8] at * <;> omega) | (simp [upd4, cpy4, nrm, strm, by8] at * <;> omega))) | (refine ⟨((255 : Int) - (0)).toNat, e0, i0, _, _, 0, _, rfl, rfl, rfl, rfl, rfl, rfl, ?_, ?_, ?_, rfl, ?_, ?_⟩ <;> (repeat' (first | assumption | exact trivial | exact Un_rf | (apply by8_4; assumption) | (apply by8_9; assumption) | (apply by8_22; assumption) | (apply by8_g; assumption) | (refine by8_13 ?_) | (apply rg_34; assumption) | (refine ixr_by8 ?_ ?_) | (refine IV_upd ?_ ?_) | (refine Un_upd rfl ?_) | (refine IV_cpy ?_ (fun _ _ _ _ => trivial)) | (refine Un_cpy rfl ?_) | (apply Un_tr; rotate_left; assumption; rfl) | (refine And.intro ?_ ?_))) <;> (first | rfl | decide | exact Or.inl rfl | exact Or.inr (Or.inl rfl) | exact Or.inr (Or.inr rfl) | (simp only [nrm, strm, by8] at * <;> omega) | (simp [upd4, cpy4, nrm, strm, by8] at * <;> omega))) | ((repeat' (first | assumption | exact trivial | exact Un_rf | (apply by8_4; assumption) | (apply by8_9; assumption) | (apply by8_22; assumption) | (apply by8_g; assumption) | (refine by8_13 ?_) | (apply rg_34; assumption) | (refine ixr_by8 ?_ ?_) | (refine IV_upd ?_ ?_) | (refine Un_upd rfl ?_) | (refine IV_cpy ?_ (fun _ _ _ _ => trivial)) | (refine Un_cpy rfl ?_) | (apply Un_tr; rotate_left; assumption; rfl) | (refine And.intro ?_ ?_))) <;> (first | rfl | decide | exact Or.inl rfl | exact Or.inr (Or.inl rfl) | exact Or.inr (Or.inr rfl) | (simp only [nrm, strm, by8] at * <;> omega) | (simp [upd4, cpy4, nrm, strm, by8] at * <;> omega)))
  · intro av σ K kx n pc L st σ' nc ns hok hSp hJ
    obtain ⟨e, i, l, t, k, o, rfl, rfl, rfl, rfl, rfl, rfl, c0, c1, c2, hn, hI, hU⟩ := hJ
    obtain ⟨-, -, hf⟩ : (23 : Nat) = 23 ∧ IV σ ∧ ∀ r σ', IV σ' → Un [23] σ σ' → K (some (.inl r)) σ' := hSp
    all_goals (repeat' (first | (with_reducible assumption) | (with_reducible refine IV_upd ?_ ?_) | (with_reducible refine IV_cpy ?_ (fun _ _ _ _ => trivial)) | (refine And.intro ?_ ?_) | (intro _)))
    all_goals first | (first | rfl | decide | exact Or.inl rfl | exact Or.inr (Or.inl rfl) | exact Or.inr (Or.inr rfl) | (simp only [nrm, strm, by8] at * <;> omega) | (simp [upd4, cpy4, nrm, strm, by8] at * <;> omega)) | (apply hf <;> (repeat' (first | assumption | exact trivial | exact Un_rf | (apply by8_4; assumption) | (apply by8_9; assumption) | (apply by8_22; assumption) | (apply by8_g; assumption) | (refine by8_13 ?_) | (apply rg_34; assumption) | (refine ixr_by8 ?_ ?_) | (refine IV_upd ?_ ?_) | (refine Un_upd rfl ?_) | (refine IV_cpy ?_ (fun _ _ _ _ => trivial)) | (refine Un_cpy rfl ?_) | (apply Un_tr; rotate_left; assumption; rfl) | (refine And.intro ?_ ?_))) <;> (first | rfl | decide | exact Or.inl rfl | exact Or.inr (Or.inl rfl) | exact Or.inr (Or.inr rfl) | (simp only [nrm, strm, by8] at * <;> omega) | (simp [upd4, cpy4, nrm, strm, by8] at * <;> omega))) | (refine ⟨((255 : Int) - (k + 1)).toNat, ?_, e, i, l, _, k + 1, _, rfl, rfl, rfl, rfl, rfl, rfl, ?_, ?_, ?_, rfl, ?_, ?_⟩ <;> (repeat' (first | assumption | exact trivial | exact Un_rf | (apply by8_4; assumption) | (apply by8_9; assumption) | (apply by8_22; assumption) | (apply by8_g; assumption) | (refine by8_13 ?_) | (apply rg_34; assumption) | (refine ixr_by8 ?_ ?_) | (refine IV_upd ?_ ?_) | (refine Un_upd rfl ?_) | (refine IV_cpy ?_ (fun _ _ _ _ => trivial)) | (refine Un_cpy rfl ?_) | (apply Un_tr; rotate_left; assumption; rfl) | (refine And.intro ?_ ?_))) <;> (first | rfl | decide | exact Or.inl rfl | exact Or.inr (Or.inl rfl) | exact Or.inr (Or.inr rfl) | (simp only [nrm, strm, by8] at * <;> omega) | (simp [upd4, cpy4, nrm, strm, by8] at * <;> omega))) | ((repeat' (first | assumption | exact trivial | exact Un_rf | (apply by8_4; assumption) | (apply by8_9; assumption) | (apply by8_22; assumption) | (apply by8_g; assumption) | (refine by8_13 ?_) | (apply rg_34; assumption) | (refine ixr_by8 ?_ ?_) | (refine IV_upd ?_ ?_) | (refine Un_upd rfl ?_) | (refine IV_cpy ?_ (fun _ _ _ _ => trivial)) | (refine Un_cpy rfl ?_) | (apply Un_tr; rotate_left; assumption; rfl) | (refine And.intro ?_ ?_))) <;> (first | rfl | decide | exact Or.inl rfl | exact Or.inr (Or.inl rfl) | exact Or.inr (Or.inr rfl) | (simp only [nrm, strm, by8] at * <;> omega) | (simp [upd4, cpy4, nrm, strm, by8] at * <;> omega)))
def gt_BlockReader_readIndexed (a : Nat) : Option Nat := match a with
  | _ => none
theorem go_BlockReader_readIndexed : ∀ a v, gt_BlockReader_readIndexed a = some v → StaOK R_BlockReader a v := by
  intro a v h
  unfold gt_BlockReader_readIndexed at h
  cases h
def pr_BlockReader_readIndexed : List Ent := [(0, 5, 0, 0, 0), (1, 39, 12, 0, 0), (4, 3, 1, 0, 0), (5, 46, 85, 0, 0), (8, 27, 0, 0, 17), (11, 5, 0, 0, 0), (12, 0, 0, 1, 0), (13, 40, 32, 0, 0), (16, 49, 0, 0, 0), (17, 5, 0, 0, 0), (18, 39, 21, 0, 0), (21, 5, 0, 0, 0), (22, 39, 12, 0, 0), (25, 3, 1, 0, 0), (26, 46, 77, 0, 0), (29, 5, 0, 0, 0), (30, 39, 12, 0, 0), (33, 3, 1, 0, 0), (34, 46, 89, 0, 0), (37, 46, 80, 0, 0), (40, 49, 0, 0, 0)]
def sw_BlockReader_readIndexed : List Swt := []
theorem dk_BlockReader_readIndexed : ∀ q ∈ pr_BlockReader_readIndexed, decode b_BlockReader_readIndexed q.1 = .ok (dec sw_BlockReader_readIndexed q) ∧ okE q = true := by decide +kernel
theorem nt_BlockReader_readIndexed : ∀ q ∈ pr_BlockReader_readIndexed, ¬ q.2.1 = 55 := by decide +kernel
def ct_BlockReader_readIndexed (a : Nat) : Option (Nat × Nat × CSp × Nat × Nat) := match a with
  | 77 => some (2, 7, sp_Table_nameAt, 0, 0)
  | 80 => some (3, 4, sp_Fields_add, 0, 0)
  | 85 => some (2, 7, sp_Table_has, 0, 0)
  | 89 => some (2, 7, sp_Table_valueAt, 0, 0)
  | _ => none
theorem co_BlockReader_readIndexed : ∀ a v, ct_BlockReader_readIndexed a = some v → StcOK R_BlockReader 2 42 a v := by
  intro a v h
  unfold ct_BlockReader_readIndexed at h
  split at h
  · cases h; exact ⟨y_Table_nameAt, b_Table_nameAt, 2, (some .int), 1, 21, 1, c_Table_nameAt, by decide, by decide +kernel, by decide +kernel, by decide +kernel, Or.inl ⟨rfl, by decide, by decide +kernel, by decide +kernel, _, _, rfl, by decide +kernel⟩⟩
  · cases h; exact ⟨y_Fields_add, b_Fields_add, 3, none, 0, 0, 2, c_Fields_add, by decide, by decide +kernel, by decide +kernel, by decide +kernel, Or.inl ⟨rfl, by decide, by decide +kernel, by decide +kernel, _, _, rfl, by decide +kernel⟩⟩
  · cases h; exact ⟨y_Table_has, b_Table_has, 2, (some .boolean), 0, 0, 1, c_Table_has, by decide, by decide +kernel, by decide +kernel, by decide +kernel, Or.inl ⟨rfl, by decide, by decide +kernel, by decide +kernel, _, _, rfl, by decide +kernel⟩⟩
  · cases h; exact ⟨y_Table_valueAt, b_Table_valueAt, 2, (some .int), 1, 21, 1, c_Table_valueAt, by decide, by decide +kernel, by decide +kernel, by decide +kernel, Or.inl ⟨rfl, by decide, by decide +kernel, by decide +kernel, _, _, rfl, by decide +kernel⟩⟩
  · cases h
/-- BlockReader_readIndexed -/
def sp_BlockReader_readIndexed : CSp := sRI (fun q x σ K _ => q.1 = 23 ∧ IV σ ∧ ∀ σ', IV σ' → Un [23, 28, 29, 30] σ σ' → K none σ')
set_option maxHeartbeats 4000000 in
set_option maxRecDepth 100000 in
theorem c_BlockReader_readIndexed : Ctr y_BlockReader_readIndexed b_BlockReader_readIndexed 2 none 2 42 0 0 sp_BlockReader_readIndexed := by
  refine ctr_of (FT := ft_BlockReader) (GT := gt_BlockReader_readIndexed) (CT := ct_BlockReader_readIndexed) (sw := sw_BlockReader_readIndexed) (rt := 2) (pr := pr_BlockReader_readIndexed) (by decide) [] (fun _ _ _ _ _ _ _ _ _ _ _ => False) 40 ⟨fun h => absurd h (by decide), fun h => absurd h (by decide), fun _ => rfl, fun h => absurd h (by decide)⟩ dk_BlockReader_readIndexed fo_BlockReader go_BlockReader_readIndexed co_BlockReader_readIndexed (fun a k h hk => by unfold gt_BlockReader_readIndexed at h; cases h) (fun q hq h => absurd h (nt_BlockReader_readIndexed q hq)) (fun av σ K kx h => by rw [sRI_len h]; decide) ?_ ?_
  · intro av σ K kx hok hSp
    obtain ⟨q0, x0, rfl, hp⟩ := sRI_inv hSp
    obtain ⟨k0, e0, i0⟩ := q0
    obtain ⟨h0, hI, h2⟩ := hp
    dsimp only at h0; subst h0
    all_goals (repeat' (first | (with_reducible assumption) | (with_reducible refine IV_upd ?_ ?_) | (with_reducible refine IV_cpy ?_ (fun _ _ _ _ => trivial)) | (refine And.intro ?_ ?_) | (intro _)))
    all_goals first | (first | rfl | decide | exact Or.inl rfl | exact Or.inr (Or.inl rfl) | exact Or.inr (Or.inr rfl) | (simp only [nrm, strm, by8] at * <;> omega) | (simp [upd4, cpy4, nrm, strm, by8] at * <;> omega)) | (exact h2) | (refine h2 _ ?_ ?_ <;> (repeat' (first | assumption | exact trivial | exact Un_rf | (apply by8_4; assumption) | (apply by8_9; assumption) | (apply by8_22; assumption) | (apply by8_g; assumption) | (refine by8_13 ?_) | (apply rg_34; assumption) | (refine ixr_by8 ?_ ?_) | (refine IV_upd ?_ ?_) | (refine Un_upd rfl ?_) | (refine IV_cpy ?_ (fun _ _ _ _ => trivial)) | (refine Un_cpy rfl ?_) | (apply Un_tr; rotate_left; assumption; rfl) | (refine And.intro ?_ ?_))) <;> (first | rfl | decide | exact Or.inl rfl | exact Or.inr (Or.inl rfl) | exact Or.inr (Or.inr rfl) | (simp only [nrm, strm, by8] at * <;> omega) | (simp [upd4, cpy4, nrm, strm, by8] at * <;> omega))) | (apply h2 <;> (repeat' (first | assumption | exact trivial | exact Un_rf | (apply by8_4; assumption) | (apply by8_9; assumption) | (apply by8_22; assumption) | (apply by8_g; assumption) | (refine by8_13 ?_) | (apply rg_34; assumption) | (refine ixr_by8 ?_ ?_) | (refine IV_upd ?_ ?_) | (refine Un_upd rfl ?_) | (refine IV_cpy ?_ (fun _ _ _ _ => trivial)) | (refine Un_cpy rfl ?_) | (apply Un_tr; rotate_left; assumption; rfl) | (refine And.intro ?_ ?_))) <;> (first | rfl | decide | exact Or.inl rfl | exact Or.inr (Or.inl rfl) | exact Or.inr (Or.inr rfl) | (simp only [nrm, strm, by8] at * <;> omega) | (simp [upd4, cpy4, nrm, strm, by8] at * <;> omega))) | ((repeat' (first | assumption | exact trivial | exact Un_rf | (apply by8_4; assumption) | (apply by8_9; assumption) | (apply by8_22; assumption) | (apply by8_g; assumption) | (refine by8_13 ?_) | (apply rg_34; assumption) | (refine ixr_by8 ?_ ?_) | (refine IV_upd ?_ ?_) | (refine Un_upd rfl ?_) | (refine IV_cpy ?_ (fun _ _ _ _ => trivial)) | (refine Un_cpy rfl ?_) | (apply Un_tr; rotate_left; assumption; rfl) | (refine And.intro ?_ ?_))) <;> (first | rfl | decide | exact Or.inl rfl | exact Or.inr (Or.inl rfl) | exact Or.inr (Or.inr rfl) | (simp only [nrm, strm, by8] at * <;> omega) | (simp [upd4, cpy4, nrm, strm, by8] at * <;> omega)))
  · intro av σ K kx n pc L st σ' nc ns _ _ h
    exact (h : False).elim
def gt_BlockReader_readField (a : Nat) : Option Nat := match a with
  | _ => none
theorem go_BlockReader_readField : ∀ a v, gt_BlockReader_readField a = some v → StaOK R_BlockReader a v := by
  intro a v h
  unfold gt_BlockReader_readField at h
  cases h
def pr_BlockReader_readField : List Ent := [(0, 5, 0, 0, 0), (1, 46, 68, 0, 0), (4, 7, 1, 0, 0), (5, 3, 1, 0, 0), (6, 2, 0, 128, 0), (9, 34, 0, 0, 22), (12, 5, 0, 0, 0), (13, 3, 1, 0, 0), (14, 2, 0, 128, 0), (17, 13, 0, 0, 0), (18, 46, 71, 0, 0), (21, 49, 0, 0, 0), (22, 3, 1, 0, 0), (23, 1, 0, 64, 0), (25, 34, 0, 0, 32), (28, 0, 0, 1, 0), (29, 38, 0, 0, 33), (32, 0, 0, 0, 0), (33, 7, 2, 0, 0), (34, 3, 2, 0, 0), (35, 27, 0, 0, 50), (38, 3, 1, 0, 0), (39, 1, 0, 16, 0), (41, 34, 0, 0, 50), (44, 5, 0, 0, 0), (45, 0, 0, 1, 0), (46, 40, 32, 0, 0), (49, 49, 0, 0, 0), (50, 3, 2, 0, 0), (51, 26, 0, 0, 61), (54, 3, 1, 0, 0), (55, 1, 0, 64, 0), (57, 13, 0, 0, 0), (58, 38, 0, 0, 62), (61, 3, 1, 0, 0), (62, 7, 3, 0, 0), (63, 3, 3, 0, 0), (64, 27, 0, 0, 74), (67, 5, 0, 0, 0), (68, 46, 74, 0, 0), (71, 38, 0, 0, 82), (74, 5, 0, 0, 0), (75, 39, 12, 0, 0), (78, 3, 3, 0, 0), (79, 46, 77, 0, 0), (82, 8, 4, 0, 0), (84, 5, 0, 0, 0), (85, 39, 32, 0, 0), (88, 27, 0, 0, 96), (91, 4, 4, 0, 0), (93, 27, 0, 0, 102), (96, 5, 0, 0, 0), (97, 0, 0, 1, 0), (98, 40, 32, 0, 0), (101, 49, 0, 0, 0), (102, 5, 0, 0, 0), (103, 46, 74, 0, 0), (106, 8, 5, 0, 0), (108, 5, 0, 0, 0), (109, 39, 32, 0, 0), (112, 26, 0, 0, 116), (115, 49, 0, 0, 0), (116, 5, 0, 0, 0), (117, 39, 21, 0, 0), (120, 4, 4, 0, 0), (122, 4, 5, 0, 0), (124, 46, 80, 0, 0), (127, 3, 2, 0, 0), (128, 26, 0, 0, 142), (131, 5, 0, 0, 0), (132, 39, 12, 0, 0), (135, 4, 4, 0, 0), (137, 4, 5, 0, 0), (139, 46, 84, 0, 0), (142, 49, 0, 0, 0)]
def sw_BlockReader_readField : List Swt := []
theorem dk_BlockReader_readField : ∀ q ∈ pr_BlockReader_readField, decode b_BlockReader_readField q.1 = .ok (dec sw_BlockReader_readField q) ∧ okE q = true := by decide +kernel
theorem nt_BlockReader_readField : ∀ q ∈ pr_BlockReader_readField, ¬ q.2.1 = 55 := by decide +kernel
def ct_BlockReader_readField (a : Nat) : Option (Nat × Nat × CSp × Nat × Nat) := match a with
  | 68 => some (1, 1, sp_BlockReader_nextByte, 0, 0)
  | 71 => some (2, 1, sp_BlockReader_readIndexed, 0, 0)
  | 74 => some (1, 1, sp_BlockReader_readText, 0, 0)
  | 77 => some (2, 7, sp_Table_nameAt, 0, 0)
  | 80 => some (3, 4, sp_Fields_add, 0, 0)
  | 84 => some (3, 7, sp_Table_add, 0, 0)
  | _ => none
theorem co_BlockReader_readField : ∀ a v, ct_BlockReader_readField a = some v → StcOK R_BlockReader 3 71 a v := by
  intro a v h
  unfold ct_BlockReader_readField at h
  split at h
  · cases h; exact ⟨y_BlockReader_nextByte, b_BlockReader_nextByte, 2, (some .int), 1, 21, 0, c_BlockReader_nextByte, by decide, by decide +kernel, by decide +kernel, by decide +kernel, Or.inl ⟨rfl, by decide, by decide +kernel, by decide +kernel, _, _, rfl, by decide +kernel⟩⟩
  · cases h; exact ⟨y_BlockReader_readIndexed, b_BlockReader_readIndexed, 2, none, 2, 42, 1, c_BlockReader_readIndexed, by decide, by decide +kernel, by decide +kernel, by decide +kernel, Or.inl ⟨rfl, by decide, by decide +kernel, by decide +kernel, _, _, rfl, by decide +kernel⟩⟩
  · cases h; exact ⟨y_BlockReader_readText, b_BlockReader_readText, 5, (some .int), 2, 42, 0, c_BlockReader_readText, by decide, by decide +kernel, by decide +kernel, by decide +kernel, Or.inl ⟨rfl, by decide, by decide +kernel, by decide +kernel, _, _, rfl, by decide +kernel⟩⟩
  · cases h; exact ⟨y_Table_nameAt, b_Table_nameAt, 2, (some .int), 1, 21, 1, c_Table_nameAt, by decide, by decide +kernel, by decide +kernel, by decide +kernel, Or.inl ⟨rfl, by decide, by decide +kernel, by decide +kernel, _, _, rfl, by decide +kernel⟩⟩
  · cases h; exact ⟨y_Fields_add, b_Fields_add, 3, none, 0, 0, 2, c_Fields_add, by decide, by decide +kernel, by decide +kernel, by decide +kernel, Or.inl ⟨rfl, by decide, by decide +kernel, by decide +kernel, _, _, rfl, by decide +kernel⟩⟩
  · cases h; exact ⟨y_Table_add, b_Table_add, 4, none, 2, 48, 2, c_Table_add, by decide, by decide +kernel, by decide +kernel, by decide +kernel, Or.inl ⟨rfl, by decide, by decide +kernel, by decide +kernel, _, _, rfl, by decide +kernel⟩⟩
  · cases h
/-- BlockReader_readField -/
def sp_BlockReader_readField : CSp := sR (fun q σ K _ => q.1 = 23 ∧ IV σ ∧ ∀ σ', IV σ' → Un [23, 24, 25, 26, 27, 28, 29, 30] σ σ' → K none σ')
set_option maxHeartbeats 4000000 in
set_option maxRecDepth 100000 in
theorem c_BlockReader_readField : Ctr y_BlockReader_readField b_BlockReader_readField 6 none 3 71 0 0 sp_BlockReader_readField := by
  refine ctr_of (FT := ft_BlockReader) (GT := gt_BlockReader_readField) (CT := ct_BlockReader_readField) (sw := sw_BlockReader_readField) (rt := 2) (pr := pr_BlockReader_readField) (by decide) [] (fun _ _ _ _ _ _ _ _ _ _ _ => False) 90 ⟨fun h => absurd h (by decide), fun h => absurd h (by decide), fun _ => rfl, fun h => absurd h (by decide)⟩ dk_BlockReader_readField fo_BlockReader go_BlockReader_readField co_BlockReader_readField (fun a k h hk => by unfold gt_BlockReader_readField at h; cases h) (fun q hq h => absurd h (nt_BlockReader_readField q hq)) (fun av σ K kx h => by rw [sR_len h]; decide) ?_ ?_
  · intro av σ K kx hok hSp
    obtain ⟨q0, rfl, hp⟩ := sR_inv hSp
    obtain ⟨k0, e0, i0⟩ := q0
    obtain ⟨h0, hI, h2⟩ := hp
    dsimp only at h0; subst h0
    all_goals (repeat' (first | (with_reducible assumption) | (with_reducible refine IV_upd ?_ ?_) | (with_reducible refine IV_cpy ?_ (fun _ _ _ _ => trivial)) | (refine And.intro ?_ ?_) | (intro _)))
    all_goals first | (first | rfl | decide | exact Or.inl rfl | exact Or.inr (Or.inl rfl) | exact Or.inr (Or.inr rfl) | (simp only [nrm, strm, by8] at * <;> omega) | (simp [upd4, cpy4, nrm, strm, by8] at * <;> omega)) | (exact h2) | (refine h2 _ ?_ ?_ <;> (repeat' (first | assumption | exact trivial | exact Un_rf | (apply by8_4; assumption) | (apply by8_9; assumption) | (apply by8_22; assumption) | (apply by8_g; assumption) | (refine by8_13 ?_) | (apply rg_34; assumption) | (refine ixr_by8 ?_ ?_) | (refine IV_upd ?_ ?_) | (refine Un_upd rfl ?_) | (refine IV_cpy ?_ (fun _ _ _ _ => trivial)) | (refine Un_cpy rfl ?_) | (apply Un_tr; rotate_left; assumption; rfl) | (refine And.intro ?_ ?_))) <;> (first | rfl | decide | exact Or.inl rfl | exact Or.inr (Or.inl rfl) | exact Or.inr (Or.inr rfl) | (simp only [nrm, strm, by8] at * <;> omega) | (simp [upd4, cpy4, nrm, strm, by8] at * <;> omega))) | (apply h2 <;> (repeat' (first | assumption | exact trivial | exact Un_rf | (apply by8_4; assumption) | (apply by8_9; assumption) | (apply by8_22; assumption) | (apply by8_g; assumption) | (refine by8_13 ?_) | (apply rg_34; assumption) | (refine ixr_by8 ?_ ?_) | (refine IV_upd ?_ ?_) | (refine Un_upd rfl ?_) | (refine IV_cpy ?_ (fun _ _ _ _ => trivial)) | (refine Un_cpy rfl ?_) | (apply Un_tr; rotate_left; assumption; rfl) | (refine And.intro ?_ ?_))) <;> (first | rfl | decide | exact Or.inl rfl | exact Or.inr (Or.inl rfl) | exact Or.inr (Or.inr rfl) | (simp only [nrm, strm, by8] at * <;> omega) | (simp [upd4, cpy4, nrm, strm, by8] at * <;> omega))) | ((repeat' (first | assumption | exact trivial | exact Un_rf | (apply by8_4; assumption) | (apply by8_9; assumption) | (apply by8_22; assumption) | (apply by8_g; assumption) | (refine by8_13 ?_) | (apply rg_34; assumption) | (refine ixr_by8 ?_ ?_) | (refine IV_upd ?_ ?_) | (refine Un_upd rfl ?_) | (refine IV_cpy ?_ (fun _ _ _ _ => trivial)) | (refine Un_cpy rfl ?_) | (apply Un_tr; rotate_left; assumption; rfl) | (refine And.intro ?_ ?_))) <;> (first | rfl | decide | exact Or.inl rfl | exact Or.inr (Or.inl rfl) | exact Or.inr (Or.inr rfl) | (simp only [nrm, strm, by8] at * <;> omega) | (simp [upd4, cpy4, nrm, strm, by8] at * <;> omega)))
  · intro av σ K kx n pc L st σ' nc ns _ _ h
    exact (h : False).elim
def gt_BlockReader_readLimits (a : Nat) : Option Nat := match a with
  | _ => none
theorem go_BlockReader_readLimits : ∀ a v, gt_BlockReader_readLimits a = some v → StaOK R_BlockReader a v := by
  intro a v h
  unfold gt_BlockReader_readLimits at h
  cases h
def pr_BlockReader_readLimits : List Ent := [(0, 0, 0, 0, 0), (1, 7, 2, 0, 0), (2, 3, 2, 0, 0), (3, 1, 0, 40, 0), (5, 35, 0, 0, 86), (8, 5, 0, 0, 0), (9, 46, 52, 0, 0), (12, 26, 0, 0, 86), (15, 5, 0, 0, 0), (16, 39, 36, 0, 0), (19, 5, 0, 0, 0), (20, 39, 25, 0, 0), (23, 46, 59, 0, 0), (26, 7, 3, 0, 0), (27, 3, 3, 0, 0), (28, 1, 0, 32, 0), (30, 34, 0, 0, 39), (33, 3, 3, 0, 0), (34, 1, 0, 38, 0), (36, 37, 0, 0, 40), (39, 49, 0, 0, 0), (40, 3, 3, 0, 0), (41, 1, 0, 32, 0), (43, 13, 0, 0, 0), (44, 8, 4, 0, 0), (46, 4, 4, 0, 0), (48, 3, 1, 0, 0), (49, 37, 0, 0, 58), (52, 5, 0, 0, 0), (53, 0, 0, 1, 0), (54, 40, 32, 0, 0), (57, 49, 0, 0, 0), (58, 5, 0, 0, 0), (59, 39, 12, 0, 0), (62, 4, 4, 0, 0), (64, 1, 0, 10, 0), (66, 14, 0, 0, 0), (67, 46, 65, 0, 0), (70, 5, 0, 0, 0), (71, 23, 0, 0, 0), (72, 39, 25, 0, 0), (75, 0, 0, 1, 0), (76, 12, 0, 0, 0), (77, 40, 25, 0, 0), (80, 11, 2, 1, 0), (83, 38, 0, 0, 2), (86, 49, 0, 0, 0)]
def sw_BlockReader_readLimits : List Swt := []
theorem dk_BlockReader_readLimits : ∀ q ∈ pr_BlockReader_readLimits, decode b_BlockReader_readLimits q.1 = .ok (dec sw_BlockReader_readLimits q) ∧ okE q = true := by decide +kernel
theorem nt_BlockReader_readLimits : ∀ q ∈ pr_BlockReader_readLimits, ¬ q.2.1 = 55 := by decide +kernel
def ct_BlockReader_readLimits (a : Nat) : Option (Nat × Nat × CSp × Nat × Nat) := match a with
  | 52 => some (1, 1, sp_BlockReader_hasMore, 0, 0)
  | 59 => some (2, 5, sp_Frame_at, 0, 0)
  | 65 => some (2, 7, sp_Table_changeLimit, 0, 0)
  | _ => none
theorem co_BlockReader_readLimits : ∀ a v, ct_BlockReader_readLimits a = some v → StcOK R_BlockReader 3 69 a v := by
  intro a v h
  unfold ct_BlockReader_readLimits at h
  split at h
  · cases h; exact ⟨y_BlockReader_hasMore, b_BlockReader_hasMore, 1, (some .boolean), 0, 0, 0, c_BlockReader_hasMore, by decide, by decide +kernel, by decide +kernel, by decide +kernel, Or.inl ⟨rfl, by decide, by decide +kernel, by decide +kernel, _, _, rfl, by decide +kernel⟩⟩
  · cases h; exact ⟨y_Frame_at, b_Frame_at, 2, (some .int), 0, 0, 1, c_Frame_at, by decide, by decide +kernel, by decide +kernel, by decide +kernel, Or.inl ⟨rfl, by decide, by decide +kernel, by decide +kernel, _, _, rfl, by decide +kernel⟩⟩
  · cases h; exact ⟨y_Table_changeLimit, b_Table_changeLimit, 2, none, 2, 48, 1, c_Table_changeLimit, by decide, by decide +kernel, by decide +kernel, by decide +kernel, Or.inl ⟨rfl, by decide, by decide +kernel, by decide +kernel, _, _, rfl, by decide +kernel⟩⟩
  · cases h
/-- BlockReader_readLimits -/
def sp_BlockReader_readLimits : CSp := sRI (fun q x σ K _ => q.1 = 23 ∧ IV σ ∧ ∀ σ', IV σ' → Un [23, 24, 25, 26, 27] σ σ' → K none σ')
set_option maxHeartbeats 4000000 in
set_option maxRecDepth 100000 in
theorem c_BlockReader_readLimits : Ctr y_BlockReader_readLimits b_BlockReader_readLimits 5 none 3 69 0 0 sp_BlockReader_readLimits := by
  refine ctr_of (FT := ft_BlockReader) (GT := gt_BlockReader_readLimits) (CT := ct_BlockReader_readLimits) (sw := sw_BlockReader_readLimits) (rt := 2) (pr := pr_BlockReader_readLimits) (by decide) [2] (fun av σ _ _ n pc L st σ' nc ns => ∃ e i x j o1 o2, av = [.inr (23, e, i), .inl x] ∧ pc = 2 ∧ L = [some (.inr (23, e, i)), some (.inl x), some (.inl j), o1, o2] ∧ st = [] ∧ nc = 0 ∧ ns = 0 ∧ 0 ≤ j ∧ j ≤ 40 ∧ n = (40 - j).toNat ∧ IV σ' ∧ Un [23, 24, 25, 26, 27] σ σ') 60 ⟨fun h => absurd h (by decide), fun h => absurd h (by decide), fun _ => rfl, fun h => absurd h (by decide)⟩ dk_BlockReader_readLimits fo_BlockReader go_BlockReader_readLimits co_BlockReader_readLimits (fun a k h hk => by unfold gt_BlockReader_readLimits at h; cases h) (fun q hq h => absurd h (nt_BlockReader_readLimits q hq)) (fun av σ K kx h => by rw [sRI_len h]; decide) ?_ ?_
  · intro av σ K kx hok hSp
    obtain ⟨q0, x0, rfl, hp⟩ := sRI_inv hSp
    obtain ⟨k0, e0, i0⟩ := q0
    obtain ⟨h0, hI, hf⟩ := hp
    dsimp only at h0; subst h0
    all_goals (repeat' (first | (with_reducible assumption) | (with_reducible refine IV_upd ?_ ?_) | (with_reducible refine IV_cpy ?_ (fun _ _ _ _ => trivial)) | (refine And.intro ?_ ?_) | (intro _)))
    all_goals first | (first | rfl | decide | exact Or.inl rfl | exact Or.inr (Or.inl rfl) | exact Or.inr (Or.inr rfl) | (simp only [nrm, strm, by8] at * <;> omega) | (simp [upd4, cpy4, nrm, strm, by8] at * <;> omega)) | (apply hf <;> (repeat' (first | assumption | exact trivial | exact Un_rf | (apply by8_4; assumption) | (apply by8_9; assumption) | (apply by8_22; assumption) | (apply by8_g; assumption) | (refine by8_13 ?_) | (apply rg_34; assumption) | (refine ixr_by8 ?_ ?_) | (refine IV_upd ?_ ?_) | (refine Un_upd rfl ?_) | (refine IV_cpy ?_ (fun _ _ _ _ => trivial)) | (refine Un_cpy rfl ?_) | (apply Un_tr; rotate_left; assumption; rfl) | (refine And.intro ?_ ?_))) <;> (first | rfl | decide | exact Or.inl rfl | exact Or.inr (Or.inl rfl) | exact Or.inr (Or.inr rfl) | (simp only [nrm, strm, by8] at * <;> omega) | (simp [upd4, cpy4, nrm, strm, by8] at * <;> omega))) | (refine ⟨((40 : Int) - (0)).toNat, e0, i0, x0, 0, _, _, rfl, rfl, rfl, rfl, rfl, rfl, ?_, ?_, rfl, ?_, ?_⟩ <;> (repeat' (first | assumption | exact trivial | exact Un_rf | (apply by8_4; assumption) | (apply by8_9; assumption) | (apply by8_22; assumption) | (apply by8_g; assumption) | (refine by8_13 ?_) | (apply rg_34; assumption) | (refine ixr_by8 ?_ ?_) | (refine IV_upd ?_ ?_) | (refine Un_upd rfl ?_) | (refine IV_cpy ?_ (fun _ _ _ _ => trivial)) | (refine Un_cpy rfl ?_) | (apply Un_tr; rotate_left; assumption; rfl) | (refine And.intro ?_ ?_))) <;> (first | rfl | decide | exact Or.inl rfl | exact Or.inr (Or.inl rfl) | exact Or.inr (Or.inr rfl) | (simp only [nrm, strm, by8] at * <;> omega) | (simp [upd4, cpy4, nrm, strm, by8] at * <;> omega))) | ((repeat' (first | assumption | exact trivial | exact Un_rf | (apply by8_4; assumption) | (apply by8_9; assumption) | (apply by8_22; assumption) | (apply by8_g; assumption) | (refine by8_13 ?_) | (apply rg_34; assumption) | (refine ixr_by8 ?_ ?_) | (refine IV_upd ?_ ?_) | (refine Un_upd rfl ?_) | (refine IV_cpy ?_ (fun _ _ _ _ => trivial)) | (refine Un_cpy rfl ?_) | (apply Un_tr; rotate_left; assumption; rfl) | (refine And.intro ?_ ?_))) <;> (first | rfl | decide | exact Or.inl rfl | exact Or.inr (Or.inl rfl) | exact Or.inr (Or.inr rfl) | (simp only [nrm, strm, by8] at * <;> omega) | (simp [upd4, cpy4, nrm, strm, by8] at * <;> omega)))
  · intro av σ K kx n pc L st σ' nc ns hok hSp hJ
    obtain ⟨e, i, x, j, o1, o2, rfl, rfl, rfl, rfl, rfl, rfl, c0, c1, hn, hI, hU⟩ := hJ
    obtain ⟨-, -, hf⟩ : (23 : Nat) = 23 ∧ IV σ ∧ ∀ σ', IV σ' → Un [23, 24, 25, 26, 27] σ σ' → K none σ' := hSp
    all_goals (repeat' (first | (with_reducible assumption) | (with_reducible refine IV_upd ?_ ?_) | (with_reducible refine IV_cpy ?_ (fun _ _ _ _ => trivial)) | (refine And.intro ?_ ?_) | (intro _)))
    all_goals first | (first | rfl | decide | exact Or.inl rfl | exact Or.inr (Or.inl rfl) | exact Or.inr (Or.inr rfl) | (simp only [nrm, strm, by8] at * <;> omega) | (simp [upd4, cpy4, nrm, strm, by8] at * <;> omega)) | (apply hf <;> (repeat' (first | assumption | exact trivial | exact Un_rf | (apply by8_4; assumption) | (apply by8_9; assumption) | (apply by8_22; assumption) | (apply by8_g; assumption) | (refine by8_13 ?_) | (apply rg_34; assumption) | (refine ixr_by8 ?_ ?_) | (refine IV_upd ?_ ?_) | (refine Un_upd rfl ?_) | (refine IV_cpy ?_ (fun _ _ _ _ => trivial)) | (refine Un_cpy rfl ?_) | (apply Un_tr; rotate_left; assumption; rfl) | (refine And.intro ?_ ?_))) <;> (first | rfl | decide | exact Or.inl rfl | exact Or.inr (Or.inl rfl) | exact Or.inr (Or.inr rfl) | (simp only [nrm, strm, by8] at * <;> omega) | (simp [upd4, cpy4, nrm, strm, by8] at * <;> omega))) | (refine ⟨((40 : Int) - (j + 1)).toNat, ?_, e, i, x, j + 1, _, _, rfl, rfl, rfl, rfl, rfl, rfl, ?_, ?_, rfl, ?_, ?_⟩ <;> (repeat' (first | assumption | exact trivial | exact Un_rf | (apply by8_4; assumption) | (apply by8_9; assumption) | (apply by8_22; assumption) | (apply by8_g; assumption) | (refine by8_13 ?_) | (apply rg_34; assumption) | (refine ixr_by8 ?_ ?_) | (refine IV_upd ?_ ?_) | (refine Un_upd rfl ?_) | (refine IV_cpy ?_ (fun _ _ _ _ => trivial)) | (refine Un_cpy rfl ?_) | (apply Un_tr; rotate_left; assumption; rfl) | (refine And.intro ?_ ?_))) <;> (first | rfl | decide | exact Or.inl rfl | exact Or.inr (Or.inl rfl) | exact Or.inr (Or.inr rfl) | (simp only [nrm, strm, by8] at * <;> omega) | (simp [upd4, cpy4, nrm, strm, by8] at * <;> omega))) | ((repeat' (first | assumption | exact trivial | exact Un_rf | (apply by8_4; assumption) | (apply by8_9; assumption) | (apply by8_22; assumption) | (apply by8_g; assumption) | (refine by8_13 ?_) | (apply rg_34; assumption) | (refine ixr_by8 ?_ ?_) | (refine IV_upd ?_ ?_) | (refine Un_upd rfl ?_) | (refine IV_cpy ?_ (fun _ _ _ _ => trivial)) | (refine Un_cpy rfl ?_) | (apply Un_tr; rotate_left; assumption; rfl) | (refine And.intro ?_ ?_))) <;> (first | rfl | decide | exact Or.inl rfl | exact Or.inr (Or.inl rfl) | exact Or.inr (Or.inr rfl) | (simp only [nrm, strm, by8] at * <;> omega) | (simp [upd4, cpy4, nrm, strm, by8] at * <;> omega)))
def gt_BlockReader_read (a : Nat) : Option Nat := match a with
  | _ => none
theorem go_BlockReader_read : ∀ a v, gt_BlockReader_read a = some v → StaOK R_BlockReader a v := by
  intro a v h
  unfold gt_BlockReader_read at h
  cases h
def pr_BlockReader_read : List Ent := [(0, 5, 0, 0, 0), (1, 0, 0, 0, 0), (2, 40, 25, 0, 0), (5, 5, 0, 0, 0), (6, 5, 0, 0, 0), (7, 39, 36, 0, 0), (10, 46, 40, 0, 0), (13, 40, 29, 0, 0), (16, 5, 0, 0, 0), (17, 0, 0, 0, 0), (18, 40, 32, 0, 0), (21, 5, 0, 0, 0), (22, 39, 21, 0, 0), (25, 46, 45, 0, 0), (28, 5, 0, 0, 0), (29, 3, 1, 0, 0), (30, 46, 48, 0, 0), (33, 0, 0, 0, 0), (34, 7, 2, 0, 0), (35, 3, 2, 0, 0), (36, 0, 0, 5, 0), (37, 35, 0, 0, 57), (40, 5, 0, 0, 0), (41, 46, 52, 0, 0), (44, 26, 0, 0, 57), (47, 5, 0, 0, 0), (48, 46, 56, 0, 0), (51, 11, 2, 1, 0), (54, 38, 0, 0, 35), (57, 5, 0, 0, 0), (58, 39, 32, 0, 0), (61, 27, 0, 0, 79), (64, 5, 0, 0, 0), (65, 39, 25, 0, 0), (68, 5, 0, 0, 0), (69, 39, 29, 0, 0), (72, 33, 0, 0, 79), (75, 0, 0, 1, 0), (76, 38, 0, 0, 80), (79, 0, 0, 0, 0), (80, 48, 0, 0, 0)]
def sw_BlockReader_read : List Swt := []
theorem dk_BlockReader_read : ∀ q ∈ pr_BlockReader_read, decode b_BlockReader_read q.1 = .ok (dec sw_BlockReader_read q) ∧ okE q = true := by decide +kernel
theorem nt_BlockReader_read : ∀ q ∈ pr_BlockReader_read, ¬ q.2.1 = 55 := by decide +kernel
def ct_BlockReader_read (a : Nat) : Option (Nat × Nat × CSp × Nat × Nat) := match a with
  | 40 => some (1, 5, sp_Frame_length, 0, 0)
  | 45 => some (1, 4, sp_Fields_clear, 0, 0)
  | 48 => some (2, 1, sp_BlockReader_readLimits, 0, 0)
  | 52 => some (1, 1, sp_BlockReader_hasMore, 0, 0)
  | 56 => some (1, 1, sp_BlockReader_readField, 0, 0)
  | _ => none
theorem co_BlockReader_read : ∀ a v, ct_BlockReader_read a = some v → StcOK R_BlockReader 4 96 a v := by
  intro a v h
  unfold ct_BlockReader_read at h
  split at h
  · cases h; exact ⟨y_Frame_length, b_Frame_length, 1, (some .int), 0, 0, 0, c_Frame_length, by decide, by decide +kernel, by decide +kernel, by decide +kernel, Or.inl ⟨rfl, by decide, by decide +kernel, by decide +kernel, _, _, rfl, by decide +kernel⟩⟩
  · cases h; exact ⟨y_Fields_clear, b_Fields_clear, 1, none, 0, 0, 0, c_Fields_clear, by decide, by decide +kernel, by decide +kernel, by decide +kernel, Or.inl ⟨rfl, by decide, by decide +kernel, by decide +kernel, _, _, rfl, by decide +kernel⟩⟩
  · cases h; exact ⟨y_BlockReader_readLimits, b_BlockReader_readLimits, 5, none, 3, 69, 1, c_BlockReader_readLimits, by decide, by decide +kernel, by decide +kernel, by decide +kernel, Or.inl ⟨rfl, by decide, by decide +kernel, by decide +kernel, _, _, rfl, by decide +kernel⟩⟩
  · cases h; exact ⟨y_BlockReader_hasMore, b_BlockReader_hasMore, 1, (some .boolean), 0, 0, 0, c_BlockReader_hasMore, by decide, by decide +kernel, by decide +kernel, by decide +kernel, Or.inl ⟨rfl, by decide, by decide +kernel, by decide +kernel, _, _, rfl, by decide +kernel⟩⟩
  · cases h; exact ⟨y_BlockReader_readField, b_BlockReader_readField, 6, none, 3, 71, 0, c_BlockReader_readField, by decide, by decide +kernel, by decide +kernel, by decide +kernel, Or.inl ⟨rfl, by decide, by decide +kernel, by decide +kernel, _, _, rfl, by decide +kernel⟩⟩
  · cases h
/-- BlockReader_read -/
def sp_BlockReader_read : CSp := sRI (fun q x σ K _ => q.1 = 23 ∧ IV σ ∧ ∀ r σ', (r = 0 ∨ r = 1) → IV σ' → Un [23, 24, 25, 26, 27, 28, 29, 30] σ σ' → K (some (.inl r)) σ')
set_option maxHeartbeats 4000000 in
set_option maxRecDepth 100000 in
theorem c_BlockReader_read : Ctr y_BlockReader_read b_BlockReader_read 3 (some .boolean) 4 96 0 0 sp_BlockReader_read := by
  refine ctr_of (FT := ft_BlockReader) (GT := gt_BlockReader_read) (CT := ct_BlockReader_read) (sw := sw_BlockReader_read) (rt := 1) (pr := pr_BlockReader_read) (by decide) [35] (fun av σ _ _ n pc L st σ' nc ns => ∃ e i x j, av = [.inr (23, e, i), .inl x] ∧ pc = 35 ∧ L = [some (.inr (23, e, i)), some (.inl x), some (.inl j)] ∧ st = [] ∧ nc = 0 ∧ ns = 0 ∧ 0 ≤ j ∧ j ≤ 5 ∧ n = (5 - j).toNat ∧ IV σ' ∧ Un [23, 24, 25, 26, 27, 28, 29, 30] σ σ') 60 ⟨fun h => absurd h (by decide), fun _ => rfl, fun h => absurd h (by decide), fun h => absurd h (by decide)⟩ dk_BlockReader_read fo_BlockReader go_BlockReader_read co_BlockReader_read (fun a k h hk => by unfold gt_BlockReader_read at h; cases h) (fun q hq h => absurd h (nt_BlockReader_read q hq)) (fun av σ K kx h => by rw [sRI_len h]; decide) ?_ ?_
  · intro av σ K kx hok hSp
    obtain ⟨q0, x0, rfl, hp⟩ := sRI_inv hSp
    obtain ⟨k0, e0, i0⟩ := q0
    obtain ⟨h0, hI, hf⟩ := hp
    dsimp only at h0; subst h0
    all_goals (repeat' (first | (with_reducible assumption) | (with_reducible refine IV_upd ?_ ?_) | (with_reducible refine IV_cpy ?_ (fun _ _ _ _ => trivial)) | (refine And.intro ?_ ?_) | (intro _)))
    all_goals first | (first | rfl | decide | exact Or.inl rfl | exact Or.inr (Or.inl rfl) | exact Or.inr (Or.inr rfl) | (simp only [nrm, strm, by8] at * <;> omega) | (simp [upd4, cpy4, nrm, strm, by8] at * <;> omega)) | (apply hf <;> (repeat' (first | assumption | exact trivial | exact Un_rf | (apply by8_4; assumption) | (apply by8_9; assumption) | (apply by8_22; assumption) | (apply by8_g; assumption) | (refine by8_13 ?_) | (apply rg_34; assumption) | (refine ixr_by8 ?_ ?_) | (refine IV_upd ?_ ?_) | (refine Un_upd rfl ?_) | (refine IV_cpy ?_ (fun _ _ _ _ => trivial)) | (refine Un_cpy rfl ?_) | (apply Un_tr; rotate_left; assumption; rfl) | (refine And.intro ?_ ?_))) <;> (first | rfl | decide | exact Or.inl rfl | exact Or.inr (Or.inl rfl) | exact Or.inr (Or.inr rfl) | (simp only [nrm, strm, by8] at * <;> omega) | (simp [upd4, cpy4, nrm, strm, by8] at * <;> omega))) | (refine ⟨((5 : Int) - (0)).toNat, e0, i0, x0, 0, rfl, rfl, rfl, rfl, rfl, rfl, ?_, ?_, rfl, ?_, ?_⟩ <;> (repeat' (first | assumption | exact trivial | exact Un_rf | (apply by8_4; assumption) | (apply by8_9; assumption) | (apply by8_22; assumption) | (apply by8_g; assumption) | (refine by8_13 ?_) | (apply rg_34; assumption) | (refine ixr_by8 ?_ ?_) | (refine IV_upd ?_ ?_) | (refine Un_upd rfl ?_) | (refine IV_cpy ?_ (fun _ _ _ _ => trivial)) | (refine Un_cpy rfl ?_) | (apply Un_tr; rotate_left; assumption; rfl) | (refine And.intro ?_ ?_))) <;> (first | rfl | decide | exact Or.inl rfl | exact Or.inr (Or.inl rfl) | exact Or.inr (Or.inr rfl) | (simp only [nrm, strm, by8] at * <;> omega) | (simp [upd4, cpy4, nrm, strm, by8] at * <;> omega))) | ((repeat' (first | assumption | exact trivial | exact Un_rf | (apply by8_4; assumption) | (apply by8_9; assumption) | (apply by8_22; assumption) | (apply by8_g; assumption) | (refine by8_13 ?_) | (apply rg_34; assumption) | (refine ixr_by8 ?_ ?_) | (refine IV_upd ?_ ?_) | (refine Un_upd rfl ?_) | (refine IV_cpy ?_ (fun _ _ _ _ => trivial)) | (refine Un_cpy rfl ?_) | (apply Un_tr; rotate_left; assumption; rfl) | (refine And.intro ?_ ?_))) <;> (first | rfl | decide | exact Or.inl rfl | exact Or.inr (Or.inl rfl) | exact Or.inr (Or.inr rfl) | (simp only [nrm, strm, by8] at * <;> omega) | (simp [upd4, cpy4, nrm, strm, by8] at * <;> omega)))
  · intro av σ K kx n pc L st σ' nc ns hok hSp hJ
    obtain ⟨e, i, x, j, rfl, rfl, rfl, rfl, rfl, rfl, c0, c1, hn, hI, hU⟩ := hJ
    obtain ⟨-, -, hf⟩ : (23 : Nat) = 23 ∧ IV σ ∧ ∀ r σ', (r = 0 ∨ r = 1) → IV σ' → Un [23, 24, 25, 26, 27, 28, 29, 30] σ σ' → K (some (.inl r)) σ' := hSp
    all_goals (repeat' (first | (with_reducible assumption) | (with_reducible refine IV_upd ?_ ?_) | (with_reducible refine IV_cpy ?_ (fun _ _ _ _ => trivial)) | (refine And.intro ?_ ?_) | (intro _)))
    all_goals first | (first | rfl | decide | exact Or.inl rfl | exact Or.inr (Or.inl rfl) | exact Or.inr (Or.inr rfl) | (simp only [nrm, strm, by8] at * <;> omega) | (simp [upd4, cpy4, nrm, strm, by8] at * <;> omega)) | (apply hf <;> (repeat' (first | assumption | exact trivial | exact Un_rf | (apply by8_4; assumption) | (apply by8_9; assumption) | (apply by8_22; assumption) | (apply by8_g; assumption) | (refine by8_13 ?_) | (apply rg_34; assumption) | (refine ixr_by8 ?_ ?_) | (refine IV_upd ?_ ?_) | (refine Un_upd rfl ?_) | (refine IV_cpy ?_ (fun _ _ _ _ => trivial)) | (refine Un_cpy rfl ?_) | (apply Un_tr; rotate_left; assumption; rfl) | (refine And.intro ?_ ?_))) <;> (first | rfl | decide | exact Or.inl rfl | exact Or.inr (Or.inl rfl) | exact Or.inr (Or.inr rfl) | (simp only [nrm, strm, by8] at * <;> omega) | (simp [upd4, cpy4, nrm, strm, by8] at * <;> omega))) | (refine ⟨((5 : Int) - (j + 1)).toNat, ?_, e, i, x, j + 1, rfl, rfl, rfl, rfl, rfl, rfl, ?_, ?_, rfl, ?_, ?_⟩ <;> (repeat' (first | assumption | exact trivial | exact Un_rf | (apply by8_4; assumption) | (apply by8_9; assumption) | (apply by8_22; assumption) | (apply by8_g; assumption) | (refine by8_13 ?_) | (apply rg_34; assumption) | (refine ixr_by8 ?_ ?_) | (refine IV_upd ?_ ?_) | (refine Un_upd rfl ?_) | (refine IV_cpy ?_ (fun _ _ _ _ => trivial)) | (refine Un_cpy rfl ?_) | (apply Un_tr; rotate_left; assumption; rfl) | (refine And.intro ?_ ?_))) <;> (first | rfl | decide | exact Or.inl rfl | exact Or.inr (Or.inl rfl) | exact Or.inr (Or.inr rfl) | (simp only [nrm, strm, by8] at * <;> omega) | (simp [upd4, cpy4, nrm, strm, by8] at * <;> omega))) | ((repeat' (first | assumption | exact trivial | exact Un_rf | (apply by8_4; assumption) | (apply by8_9; assumption) | (apply by8_22; assumption) | (apply by8_g; assumption) | (refine by8_13 ?_) | (apply rg_34; assumption) | (refine ixr_by8 ?_ ?_) | (refine IV_upd ?_ ?_) | (refine Un_upd rfl ?_) | (refine IV_cpy ?_ (fun _ _ _ _ => trivial)) | (refine Un_cpy rfl ?_) | (apply Un_tr; rotate_left; assumption; rfl) | (refine And.intro ?_ ?_))) <;> (first | rfl | decide | exact Or.inl rfl | exact Or.inr (Or.inl rfl) | exact Or.inr (Or.inr rfl) | (simp only [nrm, strm, by8] at * <;> omega) | (simp [upd4, cpy4, nrm, strm, by8] at * <;> omega)))
end
section
theorem rg34_of {v : Int} {j k : Nat} (h : by8 v) (h2 : nrm v ≤ nrm (sv 201 j)) : rg 34 k v := by
  have h3 := sv201 j
  unfold by8 at h
  show 0 ≤ v ∧ v ≤ 60
  rw [nrm_id (by omega) (by omega), nrm_id (by omega) (by omega)] at h2
  omega
theorem rg_max {a b : Int} (ha : by8 a) (hb : by8 b) : rg 7 11 (if nrm a < nrm b then b else a) := by
  show 0 ≤ (if nrm a < nrm b then b else a) ∧ (if nrm a < nrm b then b else a) ≤ 255
  unfold by8 at ha hb
  split <;> omega
def ft_End (a : Nat) : Option (Nat × Nat × Nat) := match a with
  | 12 => some (3, 4, 2)
  | 21 => some (3, 5, 2)
  | 27 => some (3, 7, 2)
  | 40 => some (3, 8, 2)
  | 43 => some (3, 9, 2)
  | 46 => some (3, 10, 0)
  | 50 => some (3, 11, 0)
  | 53 => some (3, 12, 0)
  | 56 => some (3, 13, 0)
  | 59 => some (3, 14, 0)
  | 62 => some (3, 0, 3)
  | 66 => some (3, 1, 2)
  | 70 => some (3, 2, 2)
  | 76 => some (3, 3, 2)
  | 85 => some (3, 6, 2)
  | _ => none
theorem fo_End : ∀ a v, ft_End a = some v → FldOK R_End a v := by
  intro a v h
  unfold ft_End at h
  split at h
  · cases h; exact fl_End _ _ _ _ (by decide) (by decide +kernel) (by decide)
  · cases h; exact fl_End _ _ _ _ (by decide) (by decide +kernel) (by decide)
  · cases h; exact fl_End _ _ _ _ (by decide) (by decide +kernel) (by decide)
  · cases h; exact fl_End _ _ _ _ (by decide) (by decide +kernel) (by decide)
  · cases h; exact fl_End _ _ _ _ (by decide) (by decide +kernel) (by decide)
  · cases h; exact fl_End _ _ _ _ (by decide) (by decide +kernel) (by decide)
  · cases h; exact fl_End _ _ _ _ (by decide) (by decide +kernel) (by decide)
  · cases h; exact fl_End _ _ _ _ (by decide) (by decide +kernel) (by decide)
  · cases h; exact fl_End _ _ _ _ (by decide) (by decide +kernel) (by decide)
  · cases h; exact fl_End _ _ _ _ (by decide) (by decide +kernel) (by decide)
  · cases h; exact fl_End _ _ _ _ (by decide) (by decide +kernel) (by decide)
  · cases h; exact fl_End _ _ _ _ (by decide) (by decide +kernel) (by decide)
  · cases h; exact fl_End _ _ _ _ (by decide) (by decide +kernel) (by decide)
  · cases h; exact fl_End _ _ _ _ (by decide) (by decide +kernel) (by decide)
  · cases h; exact fl_End _ _ _ _ (by decide) (by decide +kernel) (by decide)
  · cases h
def gt_End_isUp (a : Nat) : Option Nat := match a with
  | _ => none
theorem go_End_isUp : ∀ a v, gt_End_isUp a = some v → StaOK R_End a v := by
  intro a v h
  unfold gt_End_isUp at h
  cases h
def pr_End_isUp : List Ent := [(0, 5, 0, 0, 0), (1, 39, 59, 0, 0), (4, 27, 0, 0, 11), (7, 0, 0, 1, 0), (8, 38, 0, 0, 12), (11, 0, 0, 0, 0), (12, 48, 0, 0, 0)]
def sw_End_isUp : List Swt := []
theorem dk_End_isUp : ∀ q ∈ pr_End_isUp, decode b_End_isUp q.1 = .ok (dec sw_End_isUp q) ∧ okE q = true := by decide +kernel
theorem nt_End_isUp : ∀ q ∈ pr_End_isUp, ¬ q.2.1 = 55 := by decide +kernel
def ct_End_isUp (a : Nat) : Option (Nat × Nat × CSp × Nat × Nat) := match a with
  | _ => none
theorem co_End_isUp : ∀ a v, ct_End_isUp a = some v → StcOK R_End 0 0 a v := by
  intro a v h
  unfold ct_End_isUp at h
  cases h
/-- End_isUp -/
def sp_End_isUp : CSp := sR (fun q σ K _ => q.1 = 7 ∧ K (some (.inl 0)) σ ∧ K (some (.inl 1)) σ)
set_option maxHeartbeats 4000000 in
set_option maxRecDepth 100000 in
theorem c_End_isUp : Ctr y_End_isUp b_End_isUp 1 (some .boolean) 0 0 0 0 sp_End_isUp := by
  refine ctr_of (FT := ft_End) (GT := gt_End_isUp) (CT := ct_End_isUp) (sw := sw_End_isUp) (rt := 1) (pr := pr_End_isUp) (by decide) [] (fun _ _ _ _ _ _ _ _ _ _ _ => False) 20 ⟨fun h => absurd h (by decide), fun _ => rfl, fun h => absurd h (by decide), fun h => absurd h (by decide)⟩ dk_End_isUp fo_End go_End_isUp co_End_isUp (fun a k h hk => by unfold gt_End_isUp at h; cases h) (fun q hq h => absurd h (nt_End_isUp q hq)) (fun av σ K kx h => by rw [sR_len h]; decide) ?_ ?_
  · intro av σ K kx hok hSp
    obtain ⟨q0, rfl, hp⟩ := sR_inv hSp
    obtain ⟨k0, e0, i0⟩ := q0
    obtain ⟨h0, h1, h2⟩ := hp
    dsimp only at h0; subst h0
    all_goals (repeat' (first | (with_reducible assumption) | (with_reducible (apply by8_9; assumption)) | (with_reducible (apply by8_4; assumption)) | (with_reducible (apply by8_22; assumption)) | (with_reducible (apply by8_g; assumption)) | (with_reducible refine IV_upd ?_ ?_) | (with_reducible refine IV_cpy ?_ (fun _ _ _ _ => trivial)) | (refine And.intro ?_ ?_) | (intro _)))
    all_goals first | (first | rfl | decide | exact Or.inl rfl | exact Or.inr (Or.inl rfl) | exact Or.inr (Or.inr rfl) | (simp only [nrm, strm, by8] at * <;> omega) | (simp [upd4, cpy4, nrm, strm, by8] at * <;> omega)) | (exact h1 (by first | assumption | (first | rfl | decide | exact Or.inl rfl | exact Or.inr (Or.inl rfl) | exact Or.inr (Or.inr rfl) | (simp only [nrm, strm, by8] at * <;> omega) | (simp [upd4, cpy4, nrm, strm, by8] at * <;> omega)))) | (exact h2 (by first | assumption | (first | rfl | decide | exact Or.inl rfl | exact Or.inr (Or.inl rfl) | exact Or.inr (Or.inr rfl) | (simp only [nrm, strm, by8] at * <;> omega) | (simp [upd4, cpy4, nrm, strm, by8] at * <;> omega)))) | (exact h1) | (exact h2) | (refine h1 _ ?_ ?_ <;> (repeat' (first | assumption | exact trivial | exact Un_rf | (apply by8_4; assumption) | (apply by8_9; assumption) | (apply by8_22; assumption) | (apply by8_g; assumption) | (refine by8_13 ?_) | (apply rg34_of <;> assumption) | (refine rg_max ?_ ?_) | (apply rg_34; assumption) | (refine ixr_by8 ?_ ?_) | (refine IV_upd ?_ ?_) | (refine Un_upd rfl ?_) | (refine IV_cpy ?_ (fun _ _ _ _ => trivial)) | (refine Un_cpy rfl ?_) | (apply Un_tr; rotate_left; assumption; rfl) | (refine And.intro ?_ ?_))) <;> (first | rfl | decide | exact Or.inl rfl | exact Or.inr (Or.inl rfl) | exact Or.inr (Or.inr rfl) | (simp only [nrm, strm, by8] at * <;> omega) | (simp [upd4, cpy4, nrm, strm, by8] at * <;> omega))) | (refine h2 _ ?_ ?_ <;> (repeat' (first | assumption | exact trivial | exact Un_rf | (apply by8_4; assumption) | (apply by8_9; assumption) | (apply by8_22; assumption) | (apply by8_g; assumption) | (refine by8_13 ?_) | (apply rg34_of <;> assumption) | (refine rg_max ?_ ?_) | (apply rg_34; assumption) | (refine ixr_by8 ?_ ?_) | (refine IV_upd ?_ ?_) | (refine Un_upd rfl ?_) | (refine IV_cpy ?_ (fun _ _ _ _ => trivial)) | (refine Un_cpy rfl ?_) | (apply Un_tr; rotate_left; assumption; rfl) | (refine And.intro ?_ ?_))) <;> (first | rfl | decide | exact Or.inl rfl | exact Or.inr (Or.inl rfl) | exact Or.inr (Or.inr rfl) | (simp only [nrm, strm, by8] at * <;> omega) | (simp [upd4, cpy4, nrm, strm, by8] at * <;> omega))) | (apply h1 <;> (repeat' (first | assumption | exact trivial | exact Un_rf | (apply by8_4; assumption) | (apply by8_9; assumption) | (apply by8_22; assumption) | (apply by8_g; assumption) | (refine by8_13 ?_) | (apply rg34_of <;> assumption) | (refine rg_max ?_ ?_) | (apply rg_34; assumption) | (refine ixr_by8 ?_ ?_) | (refine IV_upd ?_ ?_) | (refine Un_upd rfl ?_) | (refine IV_cpy ?_ (fun _ _ _ _ => trivial)) | (refine Un_cpy rfl ?_) | (apply Un_tr; rotate_left; assumption; rfl) | (refine And.intro ?_ ?_))) <;> (first | rfl | decide | exact Or.inl rfl | exact Or.inr (Or.inl rfl) | exact Or.inr (Or.inr rfl) | (simp only [nrm, strm, by8] at * <;> omega) | (simp [upd4, cpy4, nrm, strm, by8] at * <;> omega))) | (apply h2 <;> (repeat' (first | assumption | exact trivial | exact Un_rf | (apply by8_4; assumption) | (apply by8_9; assumption) | (apply by8_22; assumption) | (apply by8_g; assumption) | (refine by8_13 ?_) | (apply rg34_of <;> assumption) | (refine rg_max ?_ ?_) | (apply rg_34; assumption) | (refine ixr_by8 ?_ ?_) | (refine IV_upd ?_ ?_) | (refine Un_upd rfl ?_) | (refine IV_cpy ?_ (fun _ _ _ _ => trivial)) | (refine Un_cpy rfl ?_) | (apply Un_tr; rotate_left; assumption; rfl) | (refine And.intro ?_ ?_))) <;> (first | rfl | decide | exact Or.inl rfl | exact Or.inr (Or.inl rfl) | exact Or.inr (Or.inr rfl) | (simp only [nrm, strm, by8] at * <;> omega) | (simp [upd4, cpy4, nrm, strm, by8] at * <;> omega))) | ((repeat' (first | assumption | exact trivial | exact Un_rf | (apply by8_4; assumption) | (apply by8_9; assumption) | (apply by8_22; assumption) | (apply by8_g; assumption) | (refine by8_13 ?_) | (apply rg34_of <;> assumption) | (refine rg_max ?_ ?_) | (apply rg_34; assumption) | (refine ixr_by8 ?_ ?_) | (refine IV_upd ?_ ?_) | (refine Un_upd rfl ?_) | (refine IV_cpy ?_ (fun _ _ _ _ => trivial)) | (refine Un_cpy rfl ?_) | (apply Un_tr; rotate_left; assumption; rfl) | (refine And.intro ?_ ?_))) <;> (first | rfl | decide | exact Or.inl rfl | exact Or.inr (Or.inl rfl) | exact Or.inr (Or.inr rfl) | (simp only [nrm, strm, by8] at * <;> omega) | (simp [upd4, cpy4, nrm, strm, by8] at * <;> omega)))
  · intro av σ K kx n pc L st σ' nc ns _ _ h
    exact (h : False).elim
def gt_End_maySend (a : Nat) : Option Nat := match a with
  | _ => none
theorem go_End_maySend : ∀ a v, gt_End_maySend a = some v → StaOK R_End a v := by
  intro a v h
  unfold gt_End_maySend at h
  cases h
def pr_End_maySend : List Ent := [(0, 5, 0, 0, 0), (1, 46, 94, 0, 0), (4, 26, 0, 0, 24), (7, 5, 0, 0, 0), (8, 39, 70, 0, 0), (11, 0, 0, 4, 0), (12, 3, 1, 0, 0), (13, 12, 0, 0, 0), (14, 46, 98, 0, 0), (17, 26, 0, 0, 24), (20, 0, 0, 1, 0), (21, 38, 0, 0, 25), (24, 0, 0, 0, 0), (25, 48, 0, 0, 0)]
def sw_End_maySend : List Swt := []
theorem dk_End_maySend : ∀ q ∈ pr_End_maySend, decode b_End_maySend q.1 = .ok (dec sw_End_maySend q) ∧ okE q = true := by decide +kernel
theorem nt_End_maySend : ∀ q ∈ pr_End_maySend, ¬ q.2.1 = 55 := by decide +kernel
def ct_End_maySend (a : Nat) : Option (Nat × Nat × CSp × Nat × Nat) := match a with
  | 94 => some (1, 3, sp_End_isUp, 0, 0)
  | 98 => some (2, 8, sp_Wire_hasRoom, 0, 0)
  | _ => none
theorem co_End_maySend : ∀ a v, ct_End_maySend a = some v → StcOK R_End 1 21 a v := by
  intro a v h
  unfold ct_End_maySend at h
  split at h
  · cases h; exact ⟨y_End_isUp, b_End_isUp, 1, (some .boolean), 0, 0, 0, c_End_isUp, by decide, by decide +kernel, by decide +kernel, by decide +kernel, Or.inl ⟨rfl, by decide, by decide +kernel, by decide +kernel, _, _, rfl, by decide +kernel⟩⟩
  · cases h; exact ⟨y_Wire_hasRoom, b_Wire_hasRoom, 2, (some .boolean), 0, 0, 1, c_Wire_hasRoom, by decide, by decide +kernel, by decide +kernel, by decide +kernel, Or.inl ⟨rfl, by decide, by decide +kernel, by decide +kernel, _, _, rfl, by decide +kernel⟩⟩
  · cases h
/-- End_maySend -/
def sp_End_maySend : CSp := sRI (fun q x σ K _ => q.1 = 7 ∧ K (some (.inl 0)) σ ∧ K (some (.inl 1)) σ)
set_option maxHeartbeats 4000000 in
set_option maxRecDepth 100000 in
theorem c_End_maySend : Ctr y_End_maySend b_End_maySend 2 (some .boolean) 1 21 0 0 sp_End_maySend := by
  refine ctr_of (FT := ft_End) (GT := gt_End_maySend) (CT := ct_End_maySend) (sw := sw_End_maySend) (rt := 1) (pr := pr_End_maySend) (by decide) [] (fun _ _ _ _ _ _ _ _ _ _ _ => False) 30 ⟨fun h => absurd h (by decide), fun _ => rfl, fun h => absurd h (by decide), fun h => absurd h (by decide)⟩ dk_End_maySend fo_End go_End_maySend co_End_maySend (fun a k h hk => by unfold gt_End_maySend at h; cases h) (fun q hq h => absurd h (nt_End_maySend q hq)) (fun av σ K kx h => by rw [sRI_len h]; decide) ?_ ?_
  · intro av σ K kx hok hSp
    obtain ⟨q0, x0, rfl, hp⟩ := sRI_inv hSp
    obtain ⟨k0, e0, i0⟩ := q0
    obtain ⟨h0, h1, h2⟩ := hp
    dsimp only at h0; subst h0
    all_goals (repeat' (first | (with_reducible assumption) | (with_reducible (apply by8_9; assumption)) | (with_reducible (apply by8_4; assumption)) | (with_reducible (apply by8_22; assumption)) | (with_reducible (apply by8_g; assumption)) | (with_reducible refine IV_upd ?_ ?_) | (with_reducible refine IV_cpy ?_ (fun _ _ _ _ => trivial)) | (refine And.intro ?_ ?_) | (intro _)))
    all_goals first | (first | rfl | decide | exact Or.inl rfl | exact Or.inr (Or.inl rfl) | exact Or.inr (Or.inr rfl) | (simp only [nrm, strm, by8] at * <;> omega) | (simp [upd4, cpy4, nrm, strm, by8] at * <;> omega)) | (exact h1 (by first | assumption | (first | rfl | decide | exact Or.inl rfl | exact Or.inr (Or.inl rfl) | exact Or.inr (Or.inr rfl) | (simp only [nrm, strm, by8] at * <;> omega) | (simp [upd4, cpy4, nrm, strm, by8] at * <;> omega)))) | (exact h2 (by first | assumption | (first | rfl | decide | exact Or.inl rfl | exact Or.inr (Or.inl rfl) | exact Or.inr (Or.inr rfl) | (simp only [nrm, strm, by8] at * <;> omega) | (simp [upd4, cpy4, nrm, strm, by8] at * <;> omega)))) | (exact h1) | (exact h2) | (refine h1 _ ?_ ?_ <;> (repeat' (first | assumption | exact trivial | exact Un_rf | (apply by8_4; assumption) | (apply by8_9; assumption) | (apply by8_22; assumption) | (apply by8_g; assumption) | (refine by8_13 ?_) | (apply rg34_of <;> assumption) | (refine rg_max ?_ ?_) | (apply rg_34; assumption) | (refine ixr_by8 ?_ ?_) | (refine IV_upd ?_ ?_) | (refine Un_upd rfl ?_) | (refine IV_cpy ?_ (fun _ _ _ _ => trivial)) | (refine Un_cpy rfl ?_) | (apply Un_tr; rotate_left; assumption; rfl) | (refine And.intro ?_ ?_))) <;> (first | rfl | decide | exact Or.inl rfl | exact Or.inr (Or.inl rfl) | exact Or.inr (Or.inr rfl) | (simp only [nrm, strm, by8] at * <;> omega) | (simp [upd4, cpy4, nrm, strm, by8] at * <;> omega))) | (refine h2 _ ?_ ?_ <;> (repeat' (first | assumption | exact trivial | exact Un_rf | (apply by8_4; assumption) | (apply by8_9; assumption) | (apply by8_22; assumption) | (apply by8_g; assumption) | (refine by8_13 ?_) | (apply rg34_of <;> assumption) | (refine rg_max ?_ ?_) | (apply rg_34; assumption) | (refine ixr_by8 ?_ ?_) | (refine IV_upd ?_ ?_) | (refine Un_upd rfl ?_) | (refine IV_cpy ?_ (fun _ _ _ _ => trivial)) | (refine Un_cpy rfl ?_) | (apply Un_tr; rotate_left; assumption; rfl) | (refine And.intro ?_ ?_))) <;> (first | rfl | decide | exact Or.inl rfl | exact Or.inr (Or.inl rfl) | exact Or.inr (Or.inr rfl) | (simp only [nrm, strm, by8] at * <;> omega) | (simp [upd4, cpy4, nrm, strm, by8] at * <;> omega))) | (apply h1 <;> (repeat' (first | assumption | exact trivial | exact Un_rf | (apply by8_4; assumption) | (apply by8_9; assumption) | (apply by8_22; assumption) | (apply by8_g; assumption) | (refine by8_13 ?_) | (apply rg34_of <;> assumption) | (refine rg_max ?_ ?_) | (apply rg_34; assumption) | (refine ixr_by8 ?_ ?_) | (refine IV_upd ?_ ?_) | (refine Un_upd rfl ?_) | (refine IV_cpy ?_ (fun _ _ _ _ => trivial)) | (refine Un_cpy rfl ?_) | (apply Un_tr; rotate_left; assumption; rfl) | (refine And.intro ?_ ?_))) <;> (first | rfl | decide | exact Or.inl rfl | exact Or.inr (Or.inl rfl) | exact Or.inr (Or.inr rfl) | (simp only [nrm, strm, by8] at * <;> omega) | (simp [upd4, cpy4, nrm, strm, by8] at * <;> omega))) | (apply h2 <;> (repeat' (first | assumption | exact trivial | exact Un_rf | (apply by8_4; assumption) | (apply by8_9; assumption) | (apply by8_22; assumption) | (apply by8_g; assumption) | (refine by8_13 ?_) | (apply rg34_of <;> assumption) | (refine rg_max ?_ ?_) | (apply rg_34; assumption) | (refine ixr_by8 ?_ ?_) | (refine IV_upd ?_ ?_) | (refine Un_upd rfl ?_) | (refine IV_cpy ?_ (fun _ _ _ _ => trivial)) | (refine Un_cpy rfl ?_) | (apply Un_tr; rotate_left; assumption; rfl) | (refine And.intro ?_ ?_))) <;> (first | rfl | decide | exact Or.inl rfl | exact Or.inr (Or.inl rfl) | exact Or.inr (Or.inr rfl) | (simp only [nrm, strm, by8] at * <;> omega) | (simp [upd4, cpy4, nrm, strm, by8] at * <;> omega))) | ((repeat' (first | assumption | exact trivial | exact Un_rf | (apply by8_4; assumption) | (apply by8_9; assumption) | (apply by8_22; assumption) | (apply by8_g; assumption) | (refine by8_13 ?_) | (apply rg34_of <;> assumption) | (refine rg_max ?_ ?_) | (apply rg_34; assumption) | (refine ixr_by8 ?_ ?_) | (refine IV_upd ?_ ?_) | (refine Un_upd rfl ?_) | (refine IV_cpy ?_ (fun _ _ _ _ => trivial)) | (refine Un_cpy rfl ?_) | (apply Un_tr; rotate_left; assumption; rfl) | (refine And.intro ?_ ?_))) <;> (first | rfl | decide | exact Or.inl rfl | exact Or.inr (Or.inl rfl) | exact Or.inr (Or.inr rfl) | (simp only [nrm, strm, by8] at * <;> omega) | (simp [upd4, cpy4, nrm, strm, by8] at * <;> omega)))
  · intro av σ K kx n pc L st σ' nc ns _ _ h
    exact (h : False).elim
def gt_End_coming (a : Nat) : Option Nat := match a with
  | _ => none
theorem go_End_coming : ∀ a v, gt_End_coming a = some v → StaOK R_End a v := by
  intro a v h
  unfold gt_End_coming at h
  cases h
def pr_End_coming : List Ent := [(0, 5, 0, 0, 0), (1, 39, 66, 0, 0), (4, 50, 0, 0, 0)]
def sw_End_coming : List Swt := []
theorem dk_End_coming : ∀ q ∈ pr_End_coming, decode b_End_coming q.1 = .ok (dec sw_End_coming q) ∧ okE q = true := by decide +kernel
theorem nt_End_coming : ∀ q ∈ pr_End_coming, ¬ q.2.1 = 55 := by decide +kernel
def ct_End_coming (a : Nat) : Option (Nat × Nat × CSp × Nat × Nat) := match a with
  | _ => none
theorem co_End_coming : ∀ a v, ct_End_coming a = some v → StcOK R_End 0 0 a v := by
  intro a v h
  unfold ct_End_coming at h
  cases h
/-- End_coming -/
def sp_End_coming : CSp := sR (fun q σ K _ => q.1 = 7 ∧ K (some (.inr (3, q.2.1, q.2.2))) σ)
set_option maxHeartbeats 4000000 in
set_option maxRecDepth 100000 in
theorem c_End_coming : Ctr y_End_coming b_End_coming 1 (some (.object "FrameStreams$Wire")) 0 0 0 0 sp_End_coming := by
  refine ctr_of (FT := ft_End) (GT := gt_End_coming) (CT := ct_End_coming) (sw := sw_End_coming) (rt := 3) (pr := pr_End_coming) (by decide) [] (fun _ _ _ _ _ _ _ _ _ _ _ => False) 20 ⟨fun h => absurd h (by decide), fun h => absurd h (by decide), fun h => absurd h (by decide), fun _ => ⟨_, rfl⟩⟩ dk_End_coming fo_End go_End_coming co_End_coming (fun a k h hk => by unfold gt_End_coming at h; cases h) (fun q hq h => absurd h (nt_End_coming q hq)) (fun av σ K kx h => by rw [sR_len h]; decide) ?_ ?_
  · intro av σ K kx hok hSp
    obtain ⟨q0, rfl, hp⟩ := sR_inv hSp
    obtain ⟨k0, e0, i0⟩ := q0
    obtain ⟨h0, h1⟩ := hp
    dsimp only at h0; subst h0
    all_goals (repeat' (first | (with_reducible assumption) | (with_reducible (apply by8_9; assumption)) | (with_reducible (apply by8_4; assumption)) | (with_reducible (apply by8_22; assumption)) | (with_reducible (apply by8_g; assumption)) | (with_reducible refine IV_upd ?_ ?_) | (with_reducible refine IV_cpy ?_ (fun _ _ _ _ => trivial)) | (refine And.intro ?_ ?_) | (intro _)))
    all_goals first | (first | rfl | decide | exact Or.inl rfl | exact Or.inr (Or.inl rfl) | exact Or.inr (Or.inr rfl) | (simp only [nrm, strm, by8] at * <;> omega) | (simp [upd4, cpy4, nrm, strm, by8] at * <;> omega)) | (exact h1 (by first | assumption | (first | rfl | decide | exact Or.inl rfl | exact Or.inr (Or.inl rfl) | exact Or.inr (Or.inr rfl) | (simp only [nrm, strm, by8] at * <;> omega) | (simp [upd4, cpy4, nrm, strm, by8] at * <;> omega)))) | (exact h1) | (refine h1 _ ?_ ?_ <;> (repeat' (first | assumption | exact trivial | exact Un_rf | (apply by8_4; assumption) | (apply by8_9; assumption) | (apply by8_22; assumption) | (apply by8_g; assumption) | (refine by8_13 ?_) | (apply rg34_of <;> assumption) | (refine rg_max ?_ ?_) | (apply rg_34; assumption) | (refine ixr_by8 ?_ ?_) | (refine IV_upd ?_ ?_) | (refine Un_upd rfl ?_) | (refine IV_cpy ?_ (fun _ _ _ _ => trivial)) | (refine Un_cpy rfl ?_) | (apply Un_tr; rotate_left; assumption; rfl) | (refine And.intro ?_ ?_))) <;> (first | rfl | decide | exact Or.inl rfl | exact Or.inr (Or.inl rfl) | exact Or.inr (Or.inr rfl) | (simp only [nrm, strm, by8] at * <;> omega) | (simp [upd4, cpy4, nrm, strm, by8] at * <;> omega))) | (apply h1 <;> (repeat' (first | assumption | exact trivial | exact Un_rf | (apply by8_4; assumption) | (apply by8_9; assumption) | (apply by8_22; assumption) | (apply by8_g; assumption) | (refine by8_13 ?_) | (apply rg34_of <;> assumption) | (refine rg_max ?_ ?_) | (apply rg_34; assumption) | (refine ixr_by8 ?_ ?_) | (refine IV_upd ?_ ?_) | (refine Un_upd rfl ?_) | (refine IV_cpy ?_ (fun _ _ _ _ => trivial)) | (refine Un_cpy rfl ?_) | (apply Un_tr; rotate_left; assumption; rfl) | (refine And.intro ?_ ?_))) <;> (first | rfl | decide | exact Or.inl rfl | exact Or.inr (Or.inl rfl) | exact Or.inr (Or.inr rfl) | (simp only [nrm, strm, by8] at * <;> omega) | (simp [upd4, cpy4, nrm, strm, by8] at * <;> omega))) | ((repeat' (first | assumption | exact trivial | exact Un_rf | (apply by8_4; assumption) | (apply by8_9; assumption) | (apply by8_22; assumption) | (apply by8_g; assumption) | (refine by8_13 ?_) | (apply rg34_of <;> assumption) | (refine rg_max ?_ ?_) | (apply rg_34; assumption) | (refine ixr_by8 ?_ ?_) | (refine IV_upd ?_ ?_) | (refine Un_upd rfl ?_) | (refine IV_cpy ?_ (fun _ _ _ _ => trivial)) | (refine Un_cpy rfl ?_) | (apply Un_tr; rotate_left; assumption; rfl) | (refine And.intro ?_ ?_))) <;> (first | rfl | decide | exact Or.inl rfl | exact Or.inr (Or.inl rfl) | exact Or.inr (Or.inr rfl) | (simp only [nrm, strm, by8] at * <;> omega) | (simp [upd4, cpy4, nrm, strm, by8] at * <;> omega)))
  · intro av σ K kx n pc L st σ' nc ns _ _ h
    exact (h : False).elim
def gt_End_list (a : Nat) : Option Nat := match a with
  | _ => none
theorem go_End_list : ∀ a v, gt_End_list a = some v → StaOK R_End a v := by
  intro a v h
  unfold gt_End_list at h
  cases h
def pr_End_list : List Ent := [(0, 5, 0, 0, 0), (1, 39, 12, 0, 0), (4, 50, 0, 0, 0)]
def sw_End_list : List Swt := []
theorem dk_End_list : ∀ q ∈ pr_End_list, decode b_End_list q.1 = .ok (dec sw_End_list q) ∧ okE q = true := by decide +kernel
theorem nt_End_list : ∀ q ∈ pr_End_list, ¬ q.2.1 = 55 := by decide +kernel
def ct_End_list (a : Nat) : Option (Nat × Nat × CSp × Nat × Nat) := match a with
  | _ => none
theorem co_End_list : ∀ a v, ct_End_list a = some v → StcOK R_End 0 0 a v := by
  intro a v h
  unfold ct_End_list at h
  cases h
/-- End_list -/
def sp_End_list : CSp := sR (fun q σ K _ => q.1 = 7 ∧ K (some (.inr (10, q.2.1, q.2.2))) σ)
set_option maxHeartbeats 4000000 in
set_option maxRecDepth 100000 in
theorem c_End_list : Ctr y_End_list b_End_list 1 (some (.object "FrameStreams$Fields")) 0 0 0 0 sp_End_list := by
  refine ctr_of (FT := ft_End) (GT := gt_End_list) (CT := ct_End_list) (sw := sw_End_list) (rt := 3) (pr := pr_End_list) (by decide) [] (fun _ _ _ _ _ _ _ _ _ _ _ => False) 20 ⟨fun h => absurd h (by decide), fun h => absurd h (by decide), fun h => absurd h (by decide), fun _ => ⟨_, rfl⟩⟩ dk_End_list fo_End go_End_list co_End_list (fun a k h hk => by unfold gt_End_list at h; cases h) (fun q hq h => absurd h (nt_End_list q hq)) (fun av σ K kx h => by rw [sR_len h]; decide) ?_ ?_
  · intro av σ K kx hok hSp
    obtain ⟨q0, rfl, hp⟩ := sR_inv hSp
    obtain ⟨k0, e0, i0⟩ := q0
    obtain ⟨h0, h1⟩ := hp
    dsimp only at h0; subst h0
    all_goals (repeat' (first | (with_reducible assumption) | (with_reducible (apply by8_9; assumption)) | (with_reducible (apply by8_4; assumption)) | (with_reducible (apply by8_22; assumption)) | (with_reducible (apply by8_g; assumption)) | (with_reducible refine IV_upd ?_ ?_) | (with_reducible refine IV_cpy ?_ (fun _ _ _ _ => trivial)) | (refine And.intro ?_ ?_) | (intro _)))
    all_goals first | (first | rfl | decide | exact Or.inl rfl | exact Or.inr (Or.inl rfl) | exact Or.inr (Or.inr rfl) | (simp only [nrm, strm, by8] at * <;> omega) | (simp [upd4, cpy4, nrm, strm, by8] at * <;> omega)) | (exact h1 (by first | assumption | (first | rfl | decide | exact Or.inl rfl | exact Or.inr (Or.inl rfl) | exact Or.inr (Or.inr rfl) | (simp only [nrm, strm, by8] at * <;> omega) | (simp [upd4, cpy4, nrm, strm, by8] at * <;> omega)))) | (exact h1) | (refine h1 _ ?_ ?_ <;> (repeat' (first | assumption | exact trivial | exact Un_rf | (apply by8_4; assumption) | (apply by8_9; assumption) | (apply by8_22; assumption) | (apply by8_g; assumption) | (refine by8_13 ?_) | (apply rg34_of <;> assumption) | (refine rg_max ?_ ?_) | (apply rg_34; assumption) | (refine ixr_by8 ?_ ?_) | (refine IV_upd ?_ ?_) | (refine Un_upd rfl ?_) | (refine IV_cpy ?_ (fun _ _ _ _ => trivial)) | (refine Un_cpy rfl ?_) | (apply Un_tr; rotate_left; assumption; rfl) | (refine And.intro ?_ ?_))) <;> (first | rfl | decide | exact Or.inl rfl | exact Or.inr (Or.inl rfl) | exact Or.inr (Or.inr rfl) | (simp only [nrm, strm, by8] at * <;> omega) | (simp [upd4, cpy4, nrm, strm, by8] at * <;> omega))) | (apply h1 <;> (repeat' (first | assumption | exact trivial | exact Un_rf | (apply by8_4; assumption) | (apply by8_9; assumption) | (apply by8_22; assumption) | (apply by8_g; assumption) | (refine by8_13 ?_) | (apply rg34_of <;> assumption) | (refine rg_max ?_ ?_) | (apply rg_34; assumption) | (refine ixr_by8 ?_ ?_) | (refine IV_upd ?_ ?_) | (refine Un_upd rfl ?_) | (refine IV_cpy ?_ (fun _ _ _ _ => trivial)) | (refine Un_cpy rfl ?_) | (apply Un_tr; rotate_left; assumption; rfl) | (refine And.intro ?_ ?_))) <;> (first | rfl | decide | exact Or.inl rfl | exact Or.inr (Or.inl rfl) | exact Or.inr (Or.inr rfl) | (simp only [nrm, strm, by8] at * <;> omega) | (simp [upd4, cpy4, nrm, strm, by8] at * <;> omega))) | ((repeat' (first | assumption | exact trivial | exact Un_rf | (apply by8_4; assumption) | (apply by8_9; assumption) | (apply by8_22; assumption) | (apply by8_g; assumption) | (refine by8_13 ?_) | (apply rg34_of <;> assumption) | (refine rg_max ?_ ?_) | (apply rg_34; assumption) | (refine ixr_by8 ?_ ?_) | (refine IV_upd ?_ ?_) | (refine Un_upd rfl ?_) | (refine IV_cpy ?_ (fun _ _ _ _ => trivial)) | (refine Un_cpy rfl ?_) | (apply Un_tr; rotate_left; assumption; rfl) | (refine And.intro ?_ ?_))) <;> (first | rfl | decide | exact Or.inl rfl | exact Or.inr (Or.inl rfl) | exact Or.inr (Or.inr rfl) | (simp only [nrm, strm, by8] at * <;> omega) | (simp [upd4, cpy4, nrm, strm, by8] at * <;> omega)))
  · intro av σ K kx n pc L st σ' nc ns _ _ h
    exact (h : False).elim
def gt_End_find (a : Nat) : Option Nat := match a with
  | _ => none
theorem go_End_find : ∀ a v, gt_End_find a = some v → StaOK R_End a v := by
  intro a v h
  unfold gt_End_find at h
  cases h
def pr_End_find : List Ent := [(0, 3, 1, 0, 0), (1, 47, 104, 0, 0), (4, 26, 0, 0, 20), (7, 5, 0, 0, 0), (8, 39, 27, 0, 0), (11, 3, 1, 0, 0), (12, 0, 0, 1, 0), (13, 12, 0, 0, 0), (14, 0, 0, 2, 0), (15, 16, 0, 0, 0), (16, 43, 0, 0, 0), (17, 38, 0, 0, 26), (20, 5, 0, 0, 0), (21, 39, 27, 0, 0), (24, 0, 0, 0, 0), (25, 43, 0, 0, 0), (26, 50, 0, 0, 0)]
def sw_End_find : List Swt := []
theorem dk_End_find : ∀ q ∈ pr_End_find, decode b_End_find q.1 = .ok (dec sw_End_find q) ∧ okE q = true := by decide +kernel
theorem nt_End_find : ∀ q ∈ pr_End_find, ¬ q.2.1 = 55 := by decide +kernel
def ct_End_find (a : Nat) : Option (Nat × Nat × CSp × Nat × Nat) := match a with
  | 104 => some (1, 1000, sp_FrameStreams_isStream, 0, 0)
  | _ => none
theorem co_End_find : ∀ a v, ct_End_find a = some v → StcOK R_End 1 20 a v := by
  intro a v h
  unfold ct_End_find at h
  split at h
  · cases h; exact ⟨y_FrameStreams_isStream, b_FrameStreams_isStream, 1, (some .boolean), 0, 0, 1, c_FrameStreams_isStream, by decide, by decide +kernel, by decide +kernel, by decide +kernel, (by first | exact Or.inr (Or.inl ⟨rfl, rfl, by decide +kernel, by decide +kernel⟩) | exact Or.inr (Or.inr ⟨rfl, rfl, ⟨"FrameStreams", by decide +kernel⟩, by decide +kernel⟩))⟩
  · cases h
/-- End_find -/
def sp_End_find : CSp := sRI (fun q x σ K _ => q.1 = 7 ∧ (strm x → K (some (.inr (32, q.2.1, fx x))) σ) ∧ (¬ strm x → K (some (.inr (32, q.2.1, 0))) σ))
set_option maxHeartbeats 4000000 in
set_option maxRecDepth 100000 in
theorem c_End_find : Ctr y_End_find b_End_find 2 (some (.object "FrameStreams$Stream")) 1 20 0 0 sp_End_find := by
  refine ctr_of (FT := ft_End) (GT := gt_End_find) (CT := ct_End_find) (sw := sw_End_find) (rt := 3) (pr := pr_End_find) (by decide) [] (fun _ _ _ _ _ _ _ _ _ _ _ => False) 30 ⟨fun h => absurd h (by decide), fun h => absurd h (by decide), fun h => absurd h (by decide), fun _ => ⟨_, rfl⟩⟩ dk_End_find fo_End go_End_find co_End_find (fun a k h hk => by unfold gt_End_find at h; cases h) (fun q hq h => absurd h (nt_End_find q hq)) (fun av σ K kx h => by rw [sRI_len h]; decide) ?_ ?_
  · intro av σ K kx hok hSp
    obtain ⟨q0, x0, rfl, hp⟩ := sRI_inv hSp
    obtain ⟨k0, e0, i0⟩ := q0
    obtain ⟨h0, h1, h2⟩ := hp
    dsimp only at h0; subst h0
    all_goals (repeat' (first | (with_reducible assumption) | (with_reducible (apply by8_9; assumption)) | (with_reducible (apply by8_4; assumption)) | (with_reducible (apply by8_22; assumption)) | (with_reducible (apply by8_g; assumption)) | (with_reducible refine IV_upd ?_ ?_) | (with_reducible refine IV_cpy ?_ (fun _ _ _ _ => trivial)) | (refine And.intro ?_ ?_) | (intro _)))
    all_goals first | (first | rfl | decide | exact Or.inl rfl | exact Or.inr (Or.inl rfl) | exact Or.inr (Or.inr rfl) | (simp only [nrm, strm, by8] at * <;> omega) | (simp [upd4, cpy4, nrm, strm, by8] at * <;> omega)) | (exact h1 (by first | assumption | (first | rfl | decide | exact Or.inl rfl | exact Or.inr (Or.inl rfl) | exact Or.inr (Or.inr rfl) | (simp only [nrm, strm, by8] at * <;> omega) | (simp [upd4, cpy4, nrm, strm, by8] at * <;> omega)))) | (exact h2 (by first | assumption | (first | rfl | decide | exact Or.inl rfl | exact Or.inr (Or.inl rfl) | exact Or.inr (Or.inr rfl) | (simp only [nrm, strm, by8] at * <;> omega) | (simp [upd4, cpy4, nrm, strm, by8] at * <;> omega)))) | (exact h1) | (exact h2) | (refine h1 _ ?_ ?_ <;> (repeat' (first | assumption | exact trivial | exact Un_rf | (apply by8_4; assumption) | (apply by8_9; assumption) | (apply by8_22; assumption) | (apply by8_g; assumption) | (refine by8_13 ?_) | (apply rg34_of <;> assumption) | (refine rg_max ?_ ?_) | (apply rg_34; assumption) | (refine ixr_by8 ?_ ?_) | (refine IV_upd ?_ ?_) | (refine Un_upd rfl ?_) | (refine IV_cpy ?_ (fun _ _ _ _ => trivial)) | (refine Un_cpy rfl ?_) | (apply Un_tr; rotate_left; assumption; rfl) | (refine And.intro ?_ ?_))) <;> (first | rfl | decide | exact Or.inl rfl | exact Or.inr (Or.inl rfl) | exact Or.inr (Or.inr rfl) | (simp only [nrm, strm, by8] at * <;> omega) | (simp [upd4, cpy4, nrm, strm, by8] at * <;> omega))) | (refine h2 _ ?_ ?_ <;> (repeat' (first | assumption | exact trivial | exact Un_rf | (apply by8_4; assumption) | (apply by8_9; assumption) | (apply by8_22; assumption) | (apply by8_g; assumption) | (refine by8_13 ?_) | (apply rg34_of <;> assumption) | (refine rg_max ?_ ?_) | (apply rg_34; assumption) | (refine ixr_by8 ?_ ?_) | (refine IV_upd ?_ ?_) | (refine Un_upd rfl ?_) | (refine IV_cpy ?_ (fun _ _ _ _ => trivial)) | (refine Un_cpy rfl ?_) | (apply Un_tr; rotate_left; assumption; rfl) | (refine And.intro ?_ ?_))) <;> (first | rfl | decide | exact Or.inl rfl | exact Or.inr (Or.inl rfl) | exact Or.inr (Or.inr rfl) | (simp only [nrm, strm, by8] at * <;> omega) | (simp [upd4, cpy4, nrm, strm, by8] at * <;> omega))) | (apply h1 <;> (repeat' (first | assumption | exact trivial | exact Un_rf | (apply by8_4; assumption) | (apply by8_9; assumption) | (apply by8_22; assumption) | (apply by8_g; assumption) | (refine by8_13 ?_) | (apply rg34_of <;> assumption) | (refine rg_max ?_ ?_) | (apply rg_34; assumption) | (refine ixr_by8 ?_ ?_) | (refine IV_upd ?_ ?_) | (refine Un_upd rfl ?_) | (refine IV_cpy ?_ (fun _ _ _ _ => trivial)) | (refine Un_cpy rfl ?_) | (apply Un_tr; rotate_left; assumption; rfl) | (refine And.intro ?_ ?_))) <;> (first | rfl | decide | exact Or.inl rfl | exact Or.inr (Or.inl rfl) | exact Or.inr (Or.inr rfl) | (simp only [nrm, strm, by8] at * <;> omega) | (simp [upd4, cpy4, nrm, strm, by8] at * <;> omega))) | (apply h2 <;> (repeat' (first | assumption | exact trivial | exact Un_rf | (apply by8_4; assumption) | (apply by8_9; assumption) | (apply by8_22; assumption) | (apply by8_g; assumption) | (refine by8_13 ?_) | (apply rg34_of <;> assumption) | (refine rg_max ?_ ?_) | (apply rg_34; assumption) | (refine ixr_by8 ?_ ?_) | (refine IV_upd ?_ ?_) | (refine Un_upd rfl ?_) | (refine IV_cpy ?_ (fun _ _ _ _ => trivial)) | (refine Un_cpy rfl ?_) | (apply Un_tr; rotate_left; assumption; rfl) | (refine And.intro ?_ ?_))) <;> (first | rfl | decide | exact Or.inl rfl | exact Or.inr (Or.inl rfl) | exact Or.inr (Or.inr rfl) | (simp only [nrm, strm, by8] at * <;> omega) | (simp [upd4, cpy4, nrm, strm, by8] at * <;> omega))) | ((repeat' (first | assumption | exact trivial | exact Un_rf | (apply by8_4; assumption) | (apply by8_9; assumption) | (apply by8_22; assumption) | (apply by8_g; assumption) | (refine by8_13 ?_) | (apply rg34_of <;> assumption) | (refine rg_max ?_ ?_) | (apply rg_34; assumption) | (refine ixr_by8 ?_ ?_) | (refine IV_upd ?_ ?_) | (refine Un_upd rfl ?_) | (refine IV_cpy ?_ (fun _ _ _ _ => trivial)) | (refine Un_cpy rfl ?_) | (apply Un_tr; rotate_left; assumption; rfl) | (refine And.intro ?_ ?_))) <;> (first | rfl | decide | exact Or.inl rfl | exact Or.inr (Or.inl rfl) | exact Or.inr (Or.inr rfl) | (simp only [nrm, strm, by8] at * <;> omega) | (simp [upd4, cpy4, nrm, strm, by8] at * <;> omega)))
  · intro av σ K kx n pc L st σ' nc ns _ _ h
    exact (h : False).elim
def gt_End_liveStreams (a : Nat) : Option Nat := match a with
  | _ => none
theorem go_End_liveStreams : ∀ a v, gt_End_liveStreams a = some v → StaOK R_End a v := by
  intro a v h
  unfold gt_End_liveStreams at h
  cases h
def pr_End_liveStreams : List Ent := [(0, 0, 0, 0, 0), (1, 7, 1, 0, 0), (2, 0, 0, 1, 0), (3, 7, 2, 0, 0), (4, 3, 2, 0, 0), (5, 5, 0, 0, 0), (6, 39, 27, 0, 0), (9, 44, 0, 0, 0), (10, 35, 0, 0, 34), (13, 5, 0, 0, 0), (14, 39, 27, 0, 0), (17, 3, 2, 0, 0), (18, 43, 0, 0, 0), (19, 46, 107, 0, 0), (22, 26, 0, 0, 28), (25, 11, 1, 1, 0), (28, 11, 2, 1, 0), (31, 38, 0, 0, 4), (34, 3, 1, 0, 0), (35, 48, 0, 0, 0)]
def sw_End_liveStreams : List Swt := []
theorem dk_End_liveStreams : ∀ q ∈ pr_End_liveStreams, decode b_End_liveStreams q.1 = .ok (dec sw_End_liveStreams q) ∧ okE q = true := by decide +kernel
theorem nt_End_liveStreams : ∀ q ∈ pr_End_liveStreams, ¬ q.2.1 = 55 := by decide +kernel
def ct_End_liveStreams (a : Nat) : Option (Nat × Nat × CSp × Nat × Nat) := match a with
  | 107 => some (1, 6, sp_Stream_isLive, 0, 0)
  | _ => none
theorem co_End_liveStreams : ∀ a v, ct_End_liveStreams a = some v → StcOK R_End 2 40 a v := by
  intro a v h
  unfold ct_End_liveStreams at h
  split at h
  · cases h; exact ⟨y_Stream_isLive, b_Stream_isLive, 1, (some .boolean), 1, 20, 0, c_Stream_isLive, by decide, by decide +kernel, by decide +kernel, by decide +kernel, Or.inl ⟨rfl, by decide, by decide +kernel, by decide +kernel, _, _, rfl, by decide +kernel⟩⟩
  · cases h
/-- End_liveStreams -/
def sp_End_liveStreams : CSp := sR (fun q σ K _ => q.1 = 7 ∧ ∀ r, K (some (.inl r)) σ)
set_option maxHeartbeats 4000000 in
set_option maxRecDepth 100000 in
theorem c_End_liveStreams : Ctr y_End_liveStreams b_End_liveStreams 3 (some .int) 2 40 0 0 sp_End_liveStreams := by
  refine ctr_of (FT := ft_End) (GT := gt_End_liveStreams) (CT := ct_End_liveStreams) (sw := sw_End_liveStreams) (rt := 0) (pr := pr_End_liveStreams) (by decide) [4] (fun av σ _ _ n pc L st σ' nc ns => ∃ e i l j, av = [.inr (7, e, i)] ∧ pc = 4 ∧ L = [some (.inr (7, e, i)), some (.inl l), some (.inl j)] ∧ st = [] ∧ σ' = σ ∧ nc = 0 ∧ ns = 0 ∧ 1 ≤ j ∧ j ≤ 8 ∧ n = (8 - j).toNat) 40 ⟨fun _ => rfl, fun h => absurd h (by decide), fun h => absurd h (by decide), fun h => absurd h (by decide)⟩ dk_End_liveStreams fo_End go_End_liveStreams co_End_liveStreams (fun a k h hk => by unfold gt_End_liveStreams at h; cases h) (fun q hq h => absurd h (nt_End_liveStreams q hq)) (fun av σ K kx h => by rw [sR_len h]; decide) ?_ ?_
  · intro av σ K kx hok hSp
    obtain ⟨q0, rfl, hp⟩ := sR_inv hSp
    obtain ⟨k0, e0, i0⟩ := q0
    obtain ⟨h0, h2⟩ := hp
    dsimp only at h0; subst h0
    exact ⟨7, e0, i0, 0, 1, rfl, rfl, rfl, rfl, rfl, rfl, rfl, by omega, by omega, rfl⟩
  · intro av σ K kx n pc L st σ' nc ns hok hSp hJ
    obtain ⟨e, i, l, j, rfl, rfl, rfl, rfl, rfl, rfl, rfl, c0, c1, hn⟩ := hJ
    obtain ⟨-, hf⟩ : (7 : Nat) = 7 ∧ ∀ r, K (some (.inl r)) σ' := hSp
    all_goals (repeat' (first | (with_reducible assumption) | (with_reducible (apply by8_9; assumption)) | (with_reducible (apply by8_4; assumption)) | (with_reducible (apply by8_22; assumption)) | (with_reducible (apply by8_g; assumption)) | (with_reducible refine IV_upd ?_ ?_) | (with_reducible refine IV_cpy ?_ (fun _ _ _ _ => trivial)) | (refine And.intro ?_ ?_) | (intro _)))
    all_goals first | (first | rfl | decide | exact Or.inl rfl | exact Or.inr (Or.inl rfl) | exact Or.inr (Or.inr rfl) | (simp only [nrm, strm, by8] at * <;> omega) | (simp [upd4, cpy4, nrm, strm, by8] at * <;> omega)) | (exact hf _) | (refine ⟨(8 - (j + 1)).toNat, ?_, e, i, _, j + 1, rfl, rfl, rfl, rfl, rfl, rfl, rfl, ?_, ?_, rfl⟩ <;> (first | rfl | decide | exact Or.inl rfl | exact Or.inr (Or.inl rfl) | exact Or.inr (Or.inr rfl) | (simp only [nrm, strm, by8] at * <;> omega) | (simp [upd4, cpy4, nrm, strm, by8] at * <;> omega)))
def gt_End_nextStream (a : Nat) : Option Nat := match a with
  | _ => none
theorem go_End_nextStream : ∀ a v, gt_End_nextStream a = some v → StaOK R_End a v := by
  intro a v h
  unfold gt_End_nextStream at h
  cases h
def pr_End_nextStream : List Ent := [(0, 5, 0, 0, 0), (1, 39, 62, 0, 0), (4, 26, 0, 0, 28), (7, 5, 0, 0, 0), (8, 39, 46, 0, 0), (11, 1, 0, 7, 0), (13, 35, 0, 0, 28), (16, 5, 0, 0, 0), (17, 39, 56, 0, 0), (20, 0, 0, -1, 0), (21, 33, 0, 0, 28), (24, 0, 0, 1, 0), (25, 38, 0, 0, 29), (28, 0, 0, 0, 0), (29, 7, 1, 0, 0), (30, 3, 1, 0, 0), (31, 26, 0, 0, 58), (34, 5, 0, 0, 0), (35, 46, 110, 0, 0), (38, 5, 0, 0, 0), (39, 39, 43, 0, 0), (42, 0, 0, 2, 0), (43, 41, 0, 0, 0), (44, 35, 0, 0, 58), (47, 0, 0, 2, 0), (48, 5, 0, 0, 0), (49, 39, 46, 0, 0), (52, 14, 0, 0, 0), (53, 0, 0, 1, 0), (54, 12, 0, 0, 0), (55, 38, 0, 0, 59), (58, 0, 0, 0, 0), (59, 48, 0, 0, 0)]
def sw_End_nextStream : List Swt := []
theorem dk_End_nextStream : ∀ q ∈ pr_End_nextStream, decode b_End_nextStream q.1 = .ok (dec sw_End_nextStream q) ∧ okE q = true := by decide +kernel
theorem nt_End_nextStream : ∀ q ∈ pr_End_nextStream, ¬ q.2.1 = 55 := by decide +kernel
def ct_End_nextStream (a : Nat) : Option (Nat × Nat × CSp × Nat × Nat) := match a with
  | 110 => some (1, 3, sp_End_liveStreams, 0, 0)
  | _ => none
theorem co_End_nextStream : ∀ a v, ct_End_nextStream a = some v → StcOK R_End 3 62 a v := by
  intro a v h
  unfold ct_End_nextStream at h
  split at h
  · cases h; exact ⟨y_End_liveStreams, b_End_liveStreams, 3, (some .int), 2, 40, 0, c_End_liveStreams, by decide, by decide +kernel, by decide +kernel, by decide +kernel, Or.inl ⟨rfl, by decide, by decide +kernel, by decide +kernel, _, _, rfl, by decide +kernel⟩⟩
  · cases h
/-- End_nextStream -/
def sp_End_nextStream : CSp := sR (fun q σ K _ => q.1 = 7 ∧ IV σ ∧ K (some (.inl 0)) σ ∧ (σ 7 q.2.1 q.2.2 10 ≤ 6 → K (some (.inl (2 * σ 7 q.2.1 q.2.2 10 + 1))) σ))
set_option maxHeartbeats 4000000 in
set_option maxRecDepth 100000 in
theorem c_End_nextStream : Ctr y_End_nextStream b_End_nextStream 2 (some .int) 3 62 0 0 sp_End_nextStream := by
  refine ctr_of (FT := ft_End) (GT := gt_End_nextStream) (CT := ct_End_nextStream) (sw := sw_End_nextStream) (rt := 0) (pr := pr_End_nextStream) (by decide) [] (fun _ _ _ _ _ _ _ _ _ _ _ => False) 50 ⟨fun _ => rfl, fun h => absurd h (by decide), fun h => absurd h (by decide), fun h => absurd h (by decide)⟩ dk_End_nextStream fo_End go_End_nextStream co_End_nextStream (fun a k h hk => by unfold gt_End_nextStream at h; cases h) (fun q hq h => absurd h (nt_End_nextStream q hq)) (fun av σ K kx h => by rw [sR_len h]; decide) ?_ ?_
  · intro av σ K kx hok hSp
    obtain ⟨q0, rfl, hp⟩ := sR_inv hSp
    obtain ⟨k0, e0, i0⟩ := q0
    obtain ⟨h0, hI, h2, h3⟩ := hp
    dsimp only at h0; subst h0
    have o1 : 0 ≤ σ 7 e0 i0 10 ∧ σ 7 e0 i0 10 ≤ 7 := hI 7 e0 i0 10
    all_goals (repeat' (first | (with_reducible assumption) | (with_reducible (apply by8_9; assumption)) | (with_reducible (apply by8_4; assumption)) | (with_reducible (apply by8_22; assumption)) | (with_reducible (apply by8_g; assumption)) | (with_reducible refine IV_upd ?_ ?_) | (with_reducible refine IV_cpy ?_ (fun _ _ _ _ => trivial)) | (refine And.intro ?_ ?_) | (intro _)))
    all_goals first | (first | rfl | decide | exact Or.inl rfl | exact Or.inr (Or.inl rfl) | exact Or.inr (Or.inr rfl) | (simp only [nrm, strm, by8] at * <;> omega) | (simp [upd4, cpy4, nrm, strm, by8] at * <;> omega)) | (exact h2 (by first | assumption | (first | rfl | decide | exact Or.inl rfl | exact Or.inr (Or.inl rfl) | exact Or.inr (Or.inr rfl) | (simp only [nrm, strm, by8] at * <;> omega) | (simp [upd4, cpy4, nrm, strm, by8] at * <;> omega)))) | (exact h3 (by first | assumption | (first | rfl | decide | exact Or.inl rfl | exact Or.inr (Or.inl rfl) | exact Or.inr (Or.inr rfl) | (simp only [nrm, strm, by8] at * <;> omega) | (simp [upd4, cpy4, nrm, strm, by8] at * <;> omega)))) | (exact h2) | (exact h3) | (refine h2 _ ?_ ?_ <;> (repeat' (first | assumption | exact trivial | exact Un_rf | (apply by8_4; assumption) | (apply by8_9; assumption) | (apply by8_22; assumption) | (apply by8_g; assumption) | (refine by8_13 ?_) | (apply rg34_of <;> assumption) | (refine rg_max ?_ ?_) | (apply rg_34; assumption) | (refine ixr_by8 ?_ ?_) | (refine IV_upd ?_ ?_) | (refine Un_upd rfl ?_) | (refine IV_cpy ?_ (fun _ _ _ _ => trivial)) | (refine Un_cpy rfl ?_) | (apply Un_tr; rotate_left; assumption; rfl) | (refine And.intro ?_ ?_))) <;> (first | rfl | decide | exact Or.inl rfl | exact Or.inr (Or.inl rfl) | exact Or.inr (Or.inr rfl) | (simp only [nrm, strm, by8] at * <;> omega) | (simp [upd4, cpy4, nrm, strm, by8] at * <;> omega))) | (refine h3 _ ?_ ?_ <;> (repeat' (first | assumption | exact trivial | exact Un_rf | (apply by8_4; assumption) | (apply by8_9; assumption) | (apply by8_22; assumption) | (apply by8_g; assumption) | (refine by8_13 ?_) | (apply rg34_of <;> assumption) | (refine rg_max ?_ ?_) | (apply rg_34; assumption) | (refine ixr_by8 ?_ ?_) | (refine IV_upd ?_ ?_) | (refine Un_upd rfl ?_) | (refine IV_cpy ?_ (fun _ _ _ _ => trivial)) | (refine Un_cpy rfl ?_) | (apply Un_tr; rotate_left; assumption; rfl) | (refine And.intro ?_ ?_))) <;> (first | rfl | decide | exact Or.inl rfl | exact Or.inr (Or.inl rfl) | exact Or.inr (Or.inr rfl) | (simp only [nrm, strm, by8] at * <;> omega) | (simp [upd4, cpy4, nrm, strm, by8] at * <;> omega))) | (apply h2 <;> (repeat' (first | assumption | exact trivial | exact Un_rf | (apply by8_4; assumption) | (apply by8_9; assumption) | (apply by8_22; assumption) | (apply by8_g; assumption) | (refine by8_13 ?_) | (apply rg34_of <;> assumption) | (refine rg_max ?_ ?_) | (apply rg_34; assumption) | (refine ixr_by8 ?_ ?_) | (refine IV_upd ?_ ?_) | (refine Un_upd rfl ?_) | (refine IV_cpy ?_ (fun _ _ _ _ => trivial)) | (refine Un_cpy rfl ?_) | (apply Un_tr; rotate_left; assumption; rfl) | (refine And.intro ?_ ?_))) <;> (first | rfl | decide | exact Or.inl rfl | exact Or.inr (Or.inl rfl) | exact Or.inr (Or.inr rfl) | (simp only [nrm, strm, by8] at * <;> omega) | (simp [upd4, cpy4, nrm, strm, by8] at * <;> omega))) | (apply h3 <;> (repeat' (first | assumption | exact trivial | exact Un_rf | (apply by8_4; assumption) | (apply by8_9; assumption) | (apply by8_22; assumption) | (apply by8_g; assumption) | (refine by8_13 ?_) | (apply rg34_of <;> assumption) | (refine rg_max ?_ ?_) | (apply rg_34; assumption) | (refine ixr_by8 ?_ ?_) | (refine IV_upd ?_ ?_) | (refine Un_upd rfl ?_) | (refine IV_cpy ?_ (fun _ _ _ _ => trivial)) | (refine Un_cpy rfl ?_) | (apply Un_tr; rotate_left; assumption; rfl) | (refine And.intro ?_ ?_))) <;> (first | rfl | decide | exact Or.inl rfl | exact Or.inr (Or.inl rfl) | exact Or.inr (Or.inr rfl) | (simp only [nrm, strm, by8] at * <;> omega) | (simp [upd4, cpy4, nrm, strm, by8] at * <;> omega))) | ((repeat' (first | assumption | exact trivial | exact Un_rf | (apply by8_4; assumption) | (apply by8_9; assumption) | (apply by8_22; assumption) | (apply by8_g; assumption) | (refine by8_13 ?_) | (apply rg34_of <;> assumption) | (refine rg_max ?_ ?_) | (apply rg_34; assumption) | (refine ixr_by8 ?_ ?_) | (refine IV_upd ?_ ?_) | (refine Un_upd rfl ?_) | (refine IV_cpy ?_ (fun _ _ _ _ => trivial)) | (refine Un_cpy rfl ?_) | (apply Un_tr; rotate_left; assumption; rfl) | (refine And.intro ?_ ?_))) <;> (first | rfl | decide | exact Or.inl rfl | exact Or.inr (Or.inl rfl) | exact Or.inr (Or.inr rfl) | (simp only [nrm, strm, by8] at * <;> omega) | (simp [upd4, cpy4, nrm, strm, by8] at * <;> omega)))
  · intro av σ K kx n pc L st σ' nc ns _ _ h
    exact (h : False).elim
def gt_End_prepareBlock (a : Nat) : Option Nat := match a with
  | _ => none
theorem go_End_prepareBlock : ∀ a v, gt_End_prepareBlock a = some v → StaOK R_End a v := by
  intro a v h
  unfold gt_End_prepareBlock at h
  cases h
def pr_End_prepareBlock : List Ent := [(0, 5, 0, 0, 0), (1, 39, 21, 0, 0), (4, 5, 0, 0, 0), (5, 39, 12, 0, 0), (8, 5, 0, 0, 0), (9, 39, 43, 0, 0), (12, 0, 0, 0, 0), (13, 41, 0, 0, 0), (14, 46, 114, 0, 0), (17, 5, 0, 0, 0), (18, 39, 21, 0, 0), (21, 46, 118, 0, 0), (24, 1, 0, 40, 0), (26, 36, 0, 0, 47), (29, 5, 0, 0, 0), (30, 5, 0, 0, 0), (31, 39, 21, 0, 0), (34, 46, 118, 0, 0), (37, 46, 121, 0, 0), (40, 26, 0, 0, 47), (43, 0, 0, 1, 0), (44, 38, 0, 0, 48), (47, 0, 0, 0, 0), (48, 48, 0, 0, 0)]
def sw_End_prepareBlock : List Swt := []
theorem dk_End_prepareBlock : ∀ q ∈ pr_End_prepareBlock, decode b_End_prepareBlock q.1 = .ok (dec sw_End_prepareBlock q) ∧ okE q = true := by decide +kernel
theorem nt_End_prepareBlock : ∀ q ∈ pr_End_prepareBlock, ¬ q.2.1 = 55 := by decide +kernel
def ct_End_prepareBlock (a : Nat) : Option (Nat × Nat × CSp × Nat × Nat) := match a with
  | 114 => some (3, 2, sp_BlockWriter_write, 0, 0)
  | 118 => some (1, 2, sp_BlockWriter_length, 0, 0)
  | 121 => some (2, 3, sp_End_maySend, 0, 0)
  | _ => none
theorem co_End_prepareBlock : ∀ a v, ct_End_prepareBlock a = some v → StcOK R_End 5 118 a v := by
  intro a v h
  unfold ct_End_prepareBlock at h
  split at h
  · cases h; exact ⟨y_BlockWriter_write, b_BlockWriter_write, 4, none, 4, 95, 2, c_BlockWriter_write, by decide, by decide +kernel, by decide +kernel, by decide +kernel, Or.inl ⟨rfl, by decide, by decide +kernel, by decide +kernel, _, _, rfl, by decide +kernel⟩⟩
  · cases h; exact ⟨y_BlockWriter_length, b_BlockWriter_length, 1, (some .int), 0, 0, 0, c_BlockWriter_length, by decide, by decide +kernel, by decide +kernel, by decide +kernel, Or.inl ⟨rfl, by decide, by decide +kernel, by decide +kernel, _, _, rfl, by decide +kernel⟩⟩
  · cases h; exact ⟨y_End_maySend, b_End_maySend, 2, (some .boolean), 1, 21, 1, c_End_maySend, by decide, by decide +kernel, by decide +kernel, by decide +kernel, Or.inl ⟨rfl, by decide, by decide +kernel, by decide +kernel, _, _, rfl, by decide +kernel⟩⟩
  · cases h
/-- End_prepareBlock -/
def sp_End_prepareBlock : CSp := sR (fun q σ K _ => q.1 = 7 ∧ IV σ ∧ ∀ r σ', (r = 0 ∨ r = 1) → IV σ' → Un [13, 18, 19, 20, 21, 22] σ σ' → K (some (.inl r)) σ')
set_option maxHeartbeats 4000000 in
set_option maxRecDepth 100000 in
theorem c_End_prepareBlock : Ctr y_End_prepareBlock b_End_prepareBlock 1 (some .boolean) 5 118 0 0 sp_End_prepareBlock := by
  refine ctr_of (FT := ft_End) (GT := gt_End_prepareBlock) (CT := ct_End_prepareBlock) (sw := sw_End_prepareBlock) (rt := 1) (pr := pr_End_prepareBlock) (by decide) [] (fun _ _ _ _ _ _ _ _ _ _ _ => False) 40 ⟨fun h => absurd h (by decide), fun _ => rfl, fun h => absurd h (by decide), fun h => absurd h (by decide)⟩ dk_End_prepareBlock fo_End go_End_prepareBlock co_End_prepareBlock (fun a k h hk => by unfold gt_End_prepareBlock at h; cases h) (fun q hq h => absurd h (nt_End_prepareBlock q hq)) (fun av σ K kx h => by rw [sR_len h]; decide) ?_ ?_
  · intro av σ K kx hok hSp
    obtain ⟨q0, rfl, hp⟩ := sR_inv hSp
    obtain ⟨k0, e0, i0⟩ := q0
    obtain ⟨h0, hI, h2⟩ := hp
    dsimp only at h0; subst h0
    have k1 : 0 ≤ σ 34 e0 i0 0 ∧ σ 34 e0 i0 0 ≤ 60 := hI 34 e0 i0 0
    all_goals (repeat' (first | (with_reducible assumption) | (with_reducible (apply by8_9; assumption)) | (with_reducible (apply by8_4; assumption)) | (with_reducible (apply by8_22; assumption)) | (with_reducible (apply by8_g; assumption)) | (with_reducible refine IV_upd ?_ ?_) | (with_reducible refine IV_cpy ?_ (fun _ _ _ _ => trivial)) | (refine And.intro ?_ ?_) | (intro _)))
    all_goals first | (first | rfl | decide | exact Or.inl rfl | exact Or.inr (Or.inl rfl) | exact Or.inr (Or.inr rfl) | (simp only [nrm, strm, by8] at * <;> omega) | (simp [upd4, cpy4, nrm, strm, by8] at * <;> omega)) | (exact h2) | (refine h2 _ ?_ ?_ <;> (repeat' (first | assumption | exact trivial | exact Un_rf | (apply by8_4; assumption) | (apply by8_9; assumption) | (apply by8_22; assumption) | (apply by8_g; assumption) | (refine by8_13 ?_) | (apply rg34_of <;> assumption) | (refine rg_max ?_ ?_) | (apply rg_34; assumption) | (refine ixr_by8 ?_ ?_) | (refine IV_upd ?_ ?_) | (refine Un_upd rfl ?_) | (refine IV_cpy ?_ (fun _ _ _ _ => trivial)) | (refine Un_cpy rfl ?_) | (apply Un_tr; rotate_left; assumption; rfl) | (refine And.intro ?_ ?_))) <;> (first | rfl | decide | exact Or.inl rfl | exact Or.inr (Or.inl rfl) | exact Or.inr (Or.inr rfl) | (simp only [nrm, strm, by8] at * <;> omega) | (simp [upd4, cpy4, nrm, strm, by8] at * <;> omega))) | (apply h2 <;> (repeat' (first | assumption | exact trivial | exact Un_rf | (apply by8_4; assumption) | (apply by8_9; assumption) | (apply by8_22; assumption) | (apply by8_g; assumption) | (refine by8_13 ?_) | (apply rg34_of <;> assumption) | (refine rg_max ?_ ?_) | (apply rg_34; assumption) | (refine ixr_by8 ?_ ?_) | (refine IV_upd ?_ ?_) | (refine Un_upd rfl ?_) | (refine IV_cpy ?_ (fun _ _ _ _ => trivial)) | (refine Un_cpy rfl ?_) | (apply Un_tr; rotate_left; assumption; rfl) | (refine And.intro ?_ ?_))) <;> (first | rfl | decide | exact Or.inl rfl | exact Or.inr (Or.inl rfl) | exact Or.inr (Or.inr rfl) | (simp only [nrm, strm, by8] at * <;> omega) | (simp [upd4, cpy4, nrm, strm, by8] at * <;> omega))) | ((repeat' (first | assumption | exact trivial | exact Un_rf | (apply by8_4; assumption) | (apply by8_9; assumption) | (apply by8_22; assumption) | (apply by8_g; assumption) | (refine by8_13 ?_) | (apply rg34_of <;> assumption) | (refine rg_max ?_ ?_) | (apply rg_34; assumption) | (refine ixr_by8 ?_ ?_) | (refine IV_upd ?_ ?_) | (refine Un_upd rfl ?_) | (refine IV_cpy ?_ (fun _ _ _ _ => trivial)) | (refine Un_cpy rfl ?_) | (apply Un_tr; rotate_left; assumption; rfl) | (refine And.intro ?_ ?_))) <;> (first | rfl | decide | exact Or.inl rfl | exact Or.inr (Or.inl rfl) | exact Or.inr (Or.inr rfl) | (simp only [nrm, strm, by8] at * <;> omega) | (simp [upd4, cpy4, nrm, strm, by8] at * <;> omega)))
  · intro av σ K kx n pc L st σ' nc ns _ _ h
    exact (h : False).elim
def gt_End_sendPair (a : Nat) : Option Nat := match a with
  | _ => none
theorem go_End_sendPair : ∀ a v, gt_End_sendPair a = some v → StaOK R_End a v := by
  intro a v h
  unfold gt_End_sendPair at h
  cases h
def pr_End_sendPair : List Ent := [(0, 5, 0, 0, 0), (1, 0, 0, 2, 0), (2, 46, 121, 0, 0), (5, 26, 0, 0, 35), (8, 5, 0, 0, 0), (9, 39, 70, 0, 0), (12, 0, 0, 2, 0), (13, 3, 1, 0, 0), (14, 0, 0, 0, 0), (15, 0, 0, 0, 0), (16, 46, 131, 0, 0), (19, 5, 0, 0, 0), (20, 39, 70, 0, 0), (23, 3, 2, 0, 0), (24, 46, 139, 0, 0), (27, 5, 0, 0, 0), (28, 39, 70, 0, 0), (31, 3, 3, 0, 0), (32, 46, 139, 0, 0), (35, 49, 0, 0, 0)]
def sw_End_sendPair : List Swt := []
theorem dk_End_sendPair : ∀ q ∈ pr_End_sendPair, decode b_End_sendPair q.1 = .ok (dec sw_End_sendPair q) ∧ okE q = true := by decide +kernel
theorem nt_End_sendPair : ∀ q ∈ pr_End_sendPair, ¬ q.2.1 = 55 := by decide +kernel
def ct_End_sendPair (a : Nat) : Option (Nat × Nat × CSp × Nat × Nat) := match a with
  | 121 => some (2, 3, sp_End_maySend, 0, 0)
  | 131 => some (5, 8, sp_Wire_putHead, 0, 0)
  | 139 => some (2, 8, sp_Wire_put, 0, 0)
  | _ => none
theorem co_End_sendPair : ∀ a v, ct_End_sendPair a = some v → StcOK R_End 2 45 a v := by
  intro a v h
  unfold ct_End_sendPair at h
  split at h
  · cases h; exact ⟨y_End_maySend, b_End_maySend, 2, (some .boolean), 1, 21, 1, c_End_maySend, by decide, by decide +kernel, by decide +kernel, by decide +kernel, Or.inl ⟨rfl, by decide, by decide +kernel, by decide +kernel, _, _, rfl, by decide +kernel⟩⟩
  · cases h; exact ⟨y_Wire_putHead, b_Wire_putHead, 5, none, 1, 21, 4, c_Wire_putHead, by decide, by decide +kernel, by decide +kernel, by decide +kernel, Or.inl ⟨rfl, by decide, by decide +kernel, by decide +kernel, _, _, rfl, by decide +kernel⟩⟩
  · cases h; exact ⟨y_Wire_put, b_Wire_put, 2, none, 0, 0, 1, c_Wire_put, by decide, by decide +kernel, by decide +kernel, by decide +kernel, Or.inl ⟨rfl, by decide, by decide +kernel, by decide +kernel, _, _, rfl, by decide +kernel⟩⟩
  · cases h
/-- End_sendPair -/
def sp_End_sendPair : CSp := sRIII (fun q x0 x1 x2 σ K _ => q.1 = 7 ∧ IV σ ∧ by8 x0 ∧ by8 x1 ∧ by8 x2 ∧ ∀ σ', IV σ' → Un [3, 4] σ σ' → K none σ')
set_option maxHeartbeats 4000000 in
set_option maxRecDepth 100000 in
theorem c_End_sendPair : Ctr y_End_sendPair b_End_sendPair 4 none 2 45 0 0 sp_End_sendPair := by
  refine ctr_of (FT := ft_End) (GT := gt_End_sendPair) (CT := ct_End_sendPair) (sw := sw_End_sendPair) (rt := 2) (pr := pr_End_sendPair) (by decide) [] (fun _ _ _ _ _ _ _ _ _ _ _ => False) 40 ⟨fun h => absurd h (by decide), fun h => absurd h (by decide), fun _ => rfl, fun h => absurd h (by decide)⟩ dk_End_sendPair fo_End go_End_sendPair co_End_sendPair (fun a k h hk => by unfold gt_End_sendPair at h; cases h) (fun q hq h => absurd h (nt_End_sendPair q hq)) (fun av σ K kx h => by rw [sRIII_len h]; decide) ?_ ?_
  · intro av σ K kx hok hSp
    obtain ⟨q0, x0, x1, x2, rfl, hp⟩ := sRIII_inv hSp
    obtain ⟨k0, e0, i0⟩ := q0
    obtain ⟨h0, hI, h2, h3, h4, h5⟩ := hp
    dsimp only at h0; subst h0
    all_goals (repeat' (first | (with_reducible assumption) | (with_reducible (apply by8_9; assumption)) | (with_reducible (apply by8_4; assumption)) | (with_reducible (apply by8_22; assumption)) | (with_reducible (apply by8_g; assumption)) | (with_reducible refine IV_upd ?_ ?_) | (with_reducible refine IV_cpy ?_ (fun _ _ _ _ => trivial)) | (refine And.intro ?_ ?_) | (intro _)))
    all_goals first | (first | rfl | decide | exact Or.inl rfl | exact Or.inr (Or.inl rfl) | exact Or.inr (Or.inr rfl) | (simp only [nrm, strm, by8] at * <;> omega) | (simp [upd4, cpy4, nrm, strm, by8] at * <;> omega)) | (exact h5) | (refine h5 _ ?_ ?_ <;> (repeat' (first | assumption | exact trivial | exact Un_rf | (apply by8_4; assumption) | (apply by8_9; assumption) | (apply by8_22; assumption) | (apply by8_g; assumption) | (refine by8_13 ?_) | (apply rg34_of <;> assumption) | (refine rg_max ?_ ?_) | (apply rg_34; assumption) | (refine ixr_by8 ?_ ?_) | (refine IV_upd ?_ ?_) | (refine Un_upd rfl ?_) | (refine IV_cpy ?_ (fun _ _ _ _ => trivial)) | (refine Un_cpy rfl ?_) | (apply Un_tr; rotate_left; assumption; rfl) | (refine And.intro ?_ ?_))) <;> (first | rfl | decide | exact Or.inl rfl | exact Or.inr (Or.inl rfl) | exact Or.inr (Or.inr rfl) | (simp only [nrm, strm, by8] at * <;> omega) | (simp [upd4, cpy4, nrm, strm, by8] at * <;> omega))) | (apply h5 <;> (repeat' (first | assumption | exact trivial | exact Un_rf | (apply by8_4; assumption) | (apply by8_9; assumption) | (apply by8_22; assumption) | (apply by8_g; assumption) | (refine by8_13 ?_) | (apply rg34_of <;> assumption) | (refine rg_max ?_ ?_) | (apply rg_34; assumption) | (refine ixr_by8 ?_ ?_) | (refine IV_upd ?_ ?_) | (refine Un_upd rfl ?_) | (refine IV_cpy ?_ (fun _ _ _ _ => trivial)) | (refine Un_cpy rfl ?_) | (apply Un_tr; rotate_left; assumption; rfl) | (refine And.intro ?_ ?_))) <;> (first | rfl | decide | exact Or.inl rfl | exact Or.inr (Or.inl rfl) | exact Or.inr (Or.inr rfl) | (simp only [nrm, strm, by8] at * <;> omega) | (simp [upd4, cpy4, nrm, strm, by8] at * <;> omega))) | ((repeat' (first | assumption | exact trivial | exact Un_rf | (apply by8_4; assumption) | (apply by8_9; assumption) | (apply by8_22; assumption) | (apply by8_g; assumption) | (refine by8_13 ?_) | (apply rg34_of <;> assumption) | (refine rg_max ?_ ?_) | (apply rg_34; assumption) | (refine ixr_by8 ?_ ?_) | (refine IV_upd ?_ ?_) | (refine Un_upd rfl ?_) | (refine IV_cpy ?_ (fun _ _ _ _ => trivial)) | (refine Un_cpy rfl ?_) | (apply Un_tr; rotate_left; assumption; rfl) | (refine And.intro ?_ ?_))) <;> (first | rfl | decide | exact Or.inl rfl | exact Or.inr (Or.inl rfl) | exact Or.inr (Or.inr rfl) | (simp only [nrm, strm, by8] at * <;> omega) | (simp [upd4, cpy4, nrm, strm, by8] at * <;> omega)))
  · intro av σ K kx n pc L st σ' nc ns _ _ h
    exact (h : False).elim
def gt_End_sendByte (a : Nat) : Option Nat := match a with
  | _ => none
theorem go_End_sendByte : ∀ a v, gt_End_sendByte a = some v → StaOK R_End a v := by
  intro a v h
  unfold gt_End_sendByte at h
  cases h
def pr_End_sendByte : List Ent := [(0, 5, 0, 0, 0), (1, 0, 0, 1, 0), (2, 46, 121, 0, 0), (5, 27, 0, 0, 11), (8, 1, 0, 6, 0), (10, 48, 0, 0, 0), (11, 5, 0, 0, 0), (12, 39, 70, 0, 0), (15, 0, 0, 1, 0), (16, 3, 1, 0, 0), (17, 3, 2, 0, 0), (18, 3, 3, 0, 0), (19, 46, 131, 0, 0), (22, 5, 0, 0, 0), (23, 39, 70, 0, 0), (26, 4, 4, 0, 0), (28, 46, 139, 0, 0), (31, 0, 0, 0, 0), (32, 48, 0, 0, 0)]
def sw_End_sendByte : List Swt := []
theorem dk_End_sendByte : ∀ q ∈ pr_End_sendByte, decode b_End_sendByte q.1 = .ok (dec sw_End_sendByte q) ∧ okE q = true := by decide +kernel
theorem nt_End_sendByte : ∀ q ∈ pr_End_sendByte, ¬ q.2.1 = 55 := by decide +kernel
def ct_End_sendByte (a : Nat) : Option (Nat × Nat × CSp × Nat × Nat) := match a with
  | 121 => some (2, 3, sp_End_maySend, 0, 0)
  | 131 => some (5, 8, sp_Wire_putHead, 0, 0)
  | 139 => some (2, 8, sp_Wire_put, 0, 0)
  | _ => none
theorem co_End_sendByte : ∀ a v, ct_End_sendByte a = some v → StcOK R_End 2 45 a v := by
  intro a v h
  unfold ct_End_sendByte at h
  split at h
  · cases h; exact ⟨y_End_maySend, b_End_maySend, 2, (some .boolean), 1, 21, 1, c_End_maySend, by decide, by decide +kernel, by decide +kernel, by decide +kernel, Or.inl ⟨rfl, by decide, by decide +kernel, by decide +kernel, _, _, rfl, by decide +kernel⟩⟩
  · cases h; exact ⟨y_Wire_putHead, b_Wire_putHead, 5, none, 1, 21, 4, c_Wire_putHead, by decide, by decide +kernel, by decide +kernel, by decide +kernel, Or.inl ⟨rfl, by decide, by decide +kernel, by decide +kernel, _, _, rfl, by decide +kernel⟩⟩
  · cases h; exact ⟨y_Wire_put, b_Wire_put, 2, none, 0, 0, 1, c_Wire_put, by decide, by decide +kernel, by decide +kernel, by decide +kernel, Or.inl ⟨rfl, by decide, by decide +kernel, by decide +kernel, _, _, rfl, by decide +kernel⟩⟩
  · cases h
/-- End_sendByte -/
def sp_End_sendByte : CSp := sRIIII (fun q x0 x1 x2 x3 σ K _ => q.1 = 7 ∧ IV σ ∧ by8 x0 ∧ by8 x1 ∧ by8 x2 ∧ by8 x3 ∧ ∀ r σ', (r = 0 ∨ r = 6) → IV σ' → Un [3, 4] σ σ' → K (some (.inl r)) σ')
set_option maxHeartbeats 4000000 in
set_option maxRecDepth 100000 in
theorem c_End_sendByte : Ctr y_End_sendByte b_End_sendByte 5 (some .int) 2 45 0 0 sp_End_sendByte := by
  refine ctr_of (FT := ft_End) (GT := gt_End_sendByte) (CT := ct_End_sendByte) (sw := sw_End_sendByte) (rt := 0) (pr := pr_End_sendByte) (by decide) [] (fun _ _ _ _ _ _ _ _ _ _ _ => False) 30 ⟨fun _ => rfl, fun h => absurd h (by decide), fun h => absurd h (by decide), fun h => absurd h (by decide)⟩ dk_End_sendByte fo_End go_End_sendByte co_End_sendByte (fun a k h hk => by unfold gt_End_sendByte at h; cases h) (fun q hq h => absurd h (nt_End_sendByte q hq)) (fun av σ K kx h => by rw [sRIIII_len h]; decide) ?_ ?_
  · intro av σ K kx hok hSp
    obtain ⟨q0, x0, x1, x2, x3, rfl, hp⟩ := sRIIII_inv hSp
    obtain ⟨k0, e0, i0⟩ := q0
    obtain ⟨h0, hI, h2, h3, h4, h5, h6⟩ := hp
    dsimp only at h0; subst h0
    all_goals (repeat' (first | (with_reducible assumption) | (with_reducible (apply by8_9; assumption)) | (with_reducible (apply by8_4; assumption)) | (with_reducible (apply by8_22; assumption)) | (with_reducible (apply by8_g; assumption)) | (with_reducible refine IV_upd ?_ ?_) | (with_reducible refine IV_cpy ?_ (fun _ _ _ _ => trivial)) | (refine And.intro ?_ ?_) | (intro _)))
    all_goals first | (first | rfl | decide | exact Or.inl rfl | exact Or.inr (Or.inl rfl) | exact Or.inr (Or.inr rfl) | (simp only [nrm, strm, by8] at * <;> omega) | (simp [upd4, cpy4, nrm, strm, by8] at * <;> omega)) | (exact h6) | (refine h6 _ ?_ ?_ <;> (repeat' (first | assumption | exact trivial | exact Un_rf | (apply by8_4; assumption) | (apply by8_9; assumption) | (apply by8_22; assumption) | (apply by8_g; assumption) | (refine by8_13 ?_) | (apply rg34_of <;> assumption) | (refine rg_max ?_ ?_) | (apply rg_34; assumption) | (refine ixr_by8 ?_ ?_) | (refine IV_upd ?_ ?_) | (refine Un_upd rfl ?_) | (refine IV_cpy ?_ (fun _ _ _ _ => trivial)) | (refine Un_cpy rfl ?_) | (apply Un_tr; rotate_left; assumption; rfl) | (refine And.intro ?_ ?_))) <;> (first | rfl | decide | exact Or.inl rfl | exact Or.inr (Or.inl rfl) | exact Or.inr (Or.inr rfl) | (simp only [nrm, strm, by8] at * <;> omega) | (simp [upd4, cpy4, nrm, strm, by8] at * <;> omega))) | (apply h6 <;> (repeat' (first | assumption | exact trivial | exact Un_rf | (apply by8_4; assumption) | (apply by8_9; assumption) | (apply by8_22; assumption) | (apply by8_g; assumption) | (refine by8_13 ?_) | (apply rg34_of <;> assumption) | (refine rg_max ?_ ?_) | (apply rg_34; assumption) | (refine ixr_by8 ?_ ?_) | (refine IV_upd ?_ ?_) | (refine Un_upd rfl ?_) | (refine IV_cpy ?_ (fun _ _ _ _ => trivial)) | (refine Un_cpy rfl ?_) | (apply Un_tr; rotate_left; assumption; rfl) | (refine And.intro ?_ ?_))) <;> (first | rfl | decide | exact Or.inl rfl | exact Or.inr (Or.inl rfl) | exact Or.inr (Or.inr rfl) | (simp only [nrm, strm, by8] at * <;> omega) | (simp [upd4, cpy4, nrm, strm, by8] at * <;> omega))) | ((repeat' (first | assumption | exact trivial | exact Un_rf | (apply by8_4; assumption) | (apply by8_9; assumption) | (apply by8_22; assumption) | (apply by8_g; assumption) | (refine by8_13 ?_) | (apply rg34_of <;> assumption) | (refine rg_max ?_ ?_) | (apply rg_34; assumption) | (refine ixr_by8 ?_ ?_) | (refine IV_upd ?_ ?_) | (refine Un_upd rfl ?_) | (refine IV_cpy ?_ (fun _ _ _ _ => trivial)) | (refine Un_cpy rfl ?_) | (apply Un_tr; rotate_left; assumption; rfl) | (refine And.intro ?_ ?_))) <;> (first | rfl | decide | exact Or.inl rfl | exact Or.inr (Or.inl rfl) | exact Or.inr (Or.inr rfl) | (simp only [nrm, strm, by8] at * <;> omega) | (simp [upd4, cpy4, nrm, strm, by8] at * <;> omega)))
  · intro av σ K kx n pc L st σ' nc ns _ _ h
    exact (h : False).elim
def gt_End_closeBy (a : Nat) : Option Nat := match a with
  | _ => none
theorem go_End_closeBy : ∀ a v, gt_End_closeBy a = some v → StaOK R_End a v := by
  intro a v h
  unfold gt_End_closeBy at h
  cases h
def pr_End_closeBy : List Ent := [(0, 5, 0, 0, 0), (1, 3, 1, 0, 0), (2, 46, 124, 0, 0), (5, 46, 155, 0, 0), (8, 5, 0, 0, 0), (9, 0, 0, 3, 0), (10, 0, 0, 0, 0), (11, 3, 1, 0, 0), (12, 3, 2, 0, 0), (13, 46, 158, 0, 0), (16, 48, 0, 0, 0)]
def sw_End_closeBy : List Swt := []
theorem dk_End_closeBy : ∀ q ∈ pr_End_closeBy, decode b_End_closeBy q.1 = .ok (dec sw_End_closeBy q) ∧ okE q = true := by decide +kernel
theorem nt_End_closeBy : ∀ q ∈ pr_End_closeBy, ¬ q.2.1 = 55 := by decide +kernel
def ct_End_closeBy (a : Nat) : Option (Nat × Nat × CSp × Nat × Nat) := match a with
  | 124 => some (2, 3, sp_End_find, 0, 0)
  | 155 => some (1, 6, sp_Stream_close, 0, 0)
  | 158 => some (5, 3, sp_End_sendByte, 0, 0)
  | _ => none
theorem co_End_closeBy : ∀ a v, ct_End_closeBy a = some v → StcOK R_End 3 69 a v := by
  intro a v h
  unfold ct_End_closeBy at h
  split at h
  · cases h; exact ⟨y_End_find, b_End_find, 2, (some (.object "FrameStreams$Stream")), 1, 20, 1, c_End_find, by decide, by decide +kernel, by decide +kernel, by decide +kernel, Or.inl ⟨rfl, by decide, by decide +kernel, by decide +kernel, _, _, rfl, by decide +kernel⟩⟩
  · cases h; exact ⟨y_Stream_close, b_Stream_close, 1, none, 0, 0, 0, c_Stream_close, by decide, by decide +kernel, by decide +kernel, by decide +kernel, Or.inl ⟨rfl, by decide, by decide +kernel, by decide +kernel, _, _, rfl, by decide +kernel⟩⟩
  · cases h; exact ⟨y_End_sendByte, b_End_sendByte, 5, (some .int), 2, 45, 4, c_End_sendByte, by decide, by decide +kernel, by decide +kernel, by decide +kernel, Or.inl ⟨rfl, by decide, by decide +kernel, by decide +kernel, _, _, rfl, by decide +kernel⟩⟩
  · cases h
/-- End_closeBy -/
def sp_End_closeBy : CSp := sRII (fun q x0 x1 σ K _ => q.1 = 7 ∧ IV σ ∧ by8 x0 ∧ by8 x1 ∧ ∀ r σ', (r = 0 ∨ r = 6) → IV σ' → Un [3, 4, 32] σ σ' → K (some (.inl r)) σ')
set_option maxHeartbeats 4000000 in
set_option maxRecDepth 100000 in
theorem c_End_closeBy : Ctr y_End_closeBy b_End_closeBy 3 (some .int) 3 69 0 0 sp_End_closeBy := by
  refine ctr_of (FT := ft_End) (GT := gt_End_closeBy) (CT := ct_End_closeBy) (sw := sw_End_closeBy) (rt := 0) (pr := pr_End_closeBy) (by decide) [] (fun _ _ _ _ _ _ _ _ _ _ _ => False) 30 ⟨fun _ => rfl, fun h => absurd h (by decide), fun h => absurd h (by decide), fun h => absurd h (by decide)⟩ dk_End_closeBy fo_End go_End_closeBy co_End_closeBy (fun a k h hk => by unfold gt_End_closeBy at h; cases h) (fun q hq h => absurd h (nt_End_closeBy q hq)) (fun av σ K kx h => by rw [sRII_len h]; decide) ?_ ?_
  · intro av σ K kx hok hSp
    obtain ⟨q0, x0, x1, rfl, hp⟩ := sRII_inv hSp
    obtain ⟨k0, e0, i0⟩ := q0
    obtain ⟨h0, hI, h2, h3, h4⟩ := hp
    dsimp only at h0; subst h0
    all_goals (repeat' (first | (with_reducible assumption) | (with_reducible (apply by8_9; assumption)) | (with_reducible (apply by8_4; assumption)) | (with_reducible (apply by8_22; assumption)) | (with_reducible (apply by8_g; assumption)) | (with_reducible refine IV_upd ?_ ?_) | (with_reducible refine IV_cpy ?_ (fun _ _ _ _ => trivial)) | (refine And.intro ?_ ?_) | (intro _)))
    all_goals first | (first | rfl | decide | exact Or.inl rfl | exact Or.inr (Or.inl rfl) | exact Or.inr (Or.inr rfl) | (simp only [nrm, strm, by8] at * <;> omega) | (simp [upd4, cpy4, nrm, strm, by8] at * <;> omega)) | (exact h4) | (refine h4 _ ?_ ?_ <;> (repeat' (first | assumption | exact trivial | exact Un_rf | (apply by8_4; assumption) | (apply by8_9; assumption) | (apply by8_22; assumption) | (apply by8_g; assumption) | (refine by8_13 ?_) | (apply rg34_of <;> assumption) | (refine rg_max ?_ ?_) | (apply rg_34; assumption) | (refine ixr_by8 ?_ ?_) | (refine IV_upd ?_ ?_) | (refine Un_upd rfl ?_) | (refine IV_cpy ?_ (fun _ _ _ _ => trivial)) | (refine Un_cpy rfl ?_) | (apply Un_tr; rotate_left; assumption; rfl) | (refine And.intro ?_ ?_))) <;> (first | rfl | decide | exact Or.inl rfl | exact Or.inr (Or.inl rfl) | exact Or.inr (Or.inr rfl) | (simp only [nrm, strm, by8] at * <;> omega) | (simp [upd4, cpy4, nrm, strm, by8] at * <;> omega))) | (apply h4 <;> (repeat' (first | assumption | exact trivial | exact Un_rf | (apply by8_4; assumption) | (apply by8_9; assumption) | (apply by8_22; assumption) | (apply by8_g; assumption) | (refine by8_13 ?_) | (apply rg34_of <;> assumption) | (refine rg_max ?_ ?_) | (apply rg_34; assumption) | (refine ixr_by8 ?_ ?_) | (refine IV_upd ?_ ?_) | (refine Un_upd rfl ?_) | (refine IV_cpy ?_ (fun _ _ _ _ => trivial)) | (refine Un_cpy rfl ?_) | (apply Un_tr; rotate_left; assumption; rfl) | (refine And.intro ?_ ?_))) <;> (first | rfl | decide | exact Or.inl rfl | exact Or.inr (Or.inl rfl) | exact Or.inr (Or.inr rfl) | (simp only [nrm, strm, by8] at * <;> omega) | (simp [upd4, cpy4, nrm, strm, by8] at * <;> omega))) | ((repeat' (first | assumption | exact trivial | exact Un_rf | (apply by8_4; assumption) | (apply by8_9; assumption) | (apply by8_22; assumption) | (apply by8_g; assumption) | (refine by8_13 ?_) | (apply rg34_of <;> assumption) | (refine rg_max ?_ ?_) | (apply rg_34; assumption) | (refine ixr_by8 ?_ ?_) | (refine IV_upd ?_ ?_) | (refine Un_upd rfl ?_) | (refine IV_cpy ?_ (fun _ _ _ _ => trivial)) | (refine Un_cpy rfl ?_) | (apply Un_tr; rotate_left; assumption; rfl) | (refine And.intro ?_ ?_))) <;> (first | rfl | decide | exact Or.inl rfl | exact Or.inr (Or.inl rfl) | exact Or.inr (Or.inr rfl) | (simp only [nrm, strm, by8] at * <;> omega) | (simp [upd4, cpy4, nrm, strm, by8] at * <;> omega)))
  · intro av σ K kx n pc L st σ' nc ns _ _ h
    exact (h : False).elim
def gt_End_growDues (a : Nat) : Option Nat := match a with
  | _ => none
theorem go_End_growDues : ∀ a v, gt_End_growDues a = some v → StaOK R_End a v := by
  intro a v h
  unfold gt_End_growDues at h
  cases h
def pr_End_growDues : List Ent := [(0, 0, 0, 1, 0), (1, 7, 2, 0, 0), (2, 3, 2, 0, 0), (3, 5, 0, 0, 0), (4, 39, 27, 0, 0), (7, 44, 0, 0, 0), (8, 35, 0, 0, 39), (11, 5, 0, 0, 0), (12, 39, 27, 0, 0), (15, 3, 2, 0, 0), (16, 43, 0, 0, 0), (17, 46, 128, 0, 0), (20, 27, 0, 0, 33), (23, 5, 0, 0, 0), (24, 39, 27, 0, 0), (27, 3, 2, 0, 0), (28, 43, 0, 0, 0), (29, 3, 1, 0, 0), (30, 46, 169, 0, 0), (33, 11, 2, 1, 0), (36, 38, 0, 0, 2), (39, 49, 0, 0, 0)]
def sw_End_growDues : List Swt := []
theorem dk_End_growDues : ∀ q ∈ pr_End_growDues, decode b_End_growDues q.1 = .ok (dec sw_End_growDues q) ∧ okE q = true := by decide +kernel
theorem nt_End_growDues : ∀ q ∈ pr_End_growDues, ¬ q.2.1 = 55 := by decide +kernel
def ct_End_growDues (a : Nat) : Option (Nat × Nat × CSp × Nat × Nat) := match a with
  | 128 => some (1, 6, sp_Stream_isIdle, 0, 0)
  | 169 => some (2, 6, sp_Stream_growDue, 0, 0)
  | _ => none
theorem co_End_growDues : ∀ a v, ct_End_growDues a = some v → StcOK R_End 1 21 a v := by
  intro a v h
  unfold ct_End_growDues at h
  split at h
  · cases h; exact ⟨y_Stream_isIdle, b_Stream_isIdle, 1, (some .boolean), 0, 0, 0, c_Stream_isIdle, by decide, by decide +kernel, by decide +kernel, by decide +kernel, Or.inl ⟨rfl, by decide, by decide +kernel, by decide +kernel, _, _, rfl, by decide +kernel⟩⟩
  · cases h; exact ⟨y_Stream_growDue, b_Stream_growDue, 2, none, 0, 0, 1, c_Stream_growDue, by decide, by decide +kernel, by decide +kernel, by decide +kernel, Or.inl ⟨rfl, by decide, by decide +kernel, by decide +kernel, _, _, rfl, by decide +kernel⟩⟩
  · cases h
/-- End_growDues -/
def sp_End_growDues : CSp := sRI (fun q x σ K _ => q.1 = 7 ∧ IV σ ∧ ∀ σ', IV σ' → Un [32] σ σ' → K none σ')
set_option maxHeartbeats 4000000 in
set_option maxRecDepth 100000 in
theorem c_End_growDues : Ctr y_End_growDues b_End_growDues 3 none 1 21 0 0 sp_End_growDues := by
  refine ctr_of (FT := ft_End) (GT := gt_End_growDues) (CT := ct_End_growDues) (sw := sw_End_growDues) (rt := 2) (pr := pr_End_growDues) (by decide) [2] (fun av σ _ _ n pc L st σ' nc ns => ∃ e i x j, av = [.inr (7, e, i), .inl x] ∧ pc = 2 ∧ L = [some (.inr (7, e, i)), some (.inl x), some (.inl j)] ∧ st = [] ∧ nc = 0 ∧ ns = 0 ∧ 1 ≤ j ∧ j ≤ 8 ∧ n = (8 - j).toNat ∧ IV σ' ∧ Un [32] σ σ') 40 ⟨fun h => absurd h (by decide), fun h => absurd h (by decide), fun _ => rfl, fun h => absurd h (by decide)⟩ dk_End_growDues fo_End go_End_growDues co_End_growDues (fun a k h hk => by unfold gt_End_growDues at h; cases h) (fun q hq h => absurd h (nt_End_growDues q hq)) (fun av σ K kx h => by rw [sRI_len h]; decide) ?_ ?_
  · intro av σ K kx hok hSp
    obtain ⟨q0, x0, rfl, hp⟩ := sRI_inv hSp
    obtain ⟨k0, e0, i0⟩ := q0
    obtain ⟨h0, hI, hf⟩ := hp
    dsimp only at h0; subst h0
    all_goals (repeat' (first | (with_reducible assumption) | (with_reducible (apply by8_9; assumption)) | (with_reducible (apply by8_4; assumption)) | (with_reducible (apply by8_22; assumption)) | (with_reducible (apply by8_g; assumption)) | (with_reducible refine IV_upd ?_ ?_) | (with_reducible refine IV_cpy ?_ (fun _ _ _ _ => trivial)) | (refine And.intro ?_ ?_) | (intro _)))
    all_goals first | (first | rfl | decide | exact Or.inl rfl | exact Or.inr (Or.inl rfl) | exact Or.inr (Or.inr rfl) | (simp only [nrm, strm, by8] at * <;> omega) | (simp [upd4, cpy4, nrm, strm, by8] at * <;> omega)) | (apply hf <;> (repeat' (first | assumption | exact trivial | exact Un_rf | (apply by8_4; assumption) | (apply by8_9; assumption) | (apply by8_22; assumption) | (apply by8_g; assumption) | (refine by8_13 ?_) | (apply rg34_of <;> assumption) | (refine rg_max ?_ ?_) | (apply rg_34; assumption) | (refine ixr_by8 ?_ ?_) | (refine IV_upd ?_ ?_) | (refine Un_upd rfl ?_) | (refine IV_cpy ?_ (fun _ _ _ _ => trivial)) | (refine Un_cpy rfl ?_) | (apply Un_tr; rotate_left; assumption; rfl) | (refine And.intro ?_ ?_))) <;> (first | rfl | decide | exact Or.inl rfl | exact Or.inr (Or.inl rfl) | exact Or.inr (Or.inr rfl) | (simp only [nrm, strm, by8] at * <;> omega) | (simp [upd4, cpy4, nrm, strm, by8] at * <;> omega))) | (refine ⟨((8 : Int) - (1)).toNat, e0, i0, x0, 1, rfl, rfl, rfl, rfl, rfl, rfl, ?_, ?_, rfl, ?_, ?_⟩ <;> (repeat' (first | assumption | exact trivial | exact Un_rf | (apply by8_4; assumption) | (apply by8_9; assumption) | (apply by8_22; assumption) | (apply by8_g; assumption) | (refine by8_13 ?_) | (apply rg34_of <;> assumption) | (refine rg_max ?_ ?_) | (apply rg_34; assumption) | (refine ixr_by8 ?_ ?_) | (refine IV_upd ?_ ?_) | (refine Un_upd rfl ?_) | (refine IV_cpy ?_ (fun _ _ _ _ => trivial)) | (refine Un_cpy rfl ?_) | (apply Un_tr; rotate_left; assumption; rfl) | (refine And.intro ?_ ?_))) <;> (first | rfl | decide | exact Or.inl rfl | exact Or.inr (Or.inl rfl) | exact Or.inr (Or.inr rfl) | (simp only [nrm, strm, by8] at * <;> omega) | (simp [upd4, cpy4, nrm, strm, by8] at * <;> omega))) | ((repeat' (first | assumption | exact trivial | exact Un_rf | (apply by8_4; assumption) | (apply by8_9; assumption) | (apply by8_22; assumption) | (apply by8_g; assumption) | (refine by8_13 ?_) | (apply rg34_of <;> assumption) | (refine rg_max ?_ ?_) | (apply rg_34; assumption) | (refine ixr_by8 ?_ ?_) | (refine IV_upd ?_ ?_) | (refine Un_upd rfl ?_) | (refine IV_cpy ?_ (fun _ _ _ _ => trivial)) | (refine Un_cpy rfl ?_) | (apply Un_tr; rotate_left; assumption; rfl) | (refine And.intro ?_ ?_))) <;> (first | rfl | decide | exact Or.inl rfl | exact Or.inr (Or.inl rfl) | exact Or.inr (Or.inr rfl) | (simp only [nrm, strm, by8] at * <;> omega) | (simp [upd4, cpy4, nrm, strm, by8] at * <;> omega)))
  · intro av σ K kx n pc L st σ' nc ns hok hSp hJ
    obtain ⟨e, i, x, j, rfl, rfl, rfl, rfl, rfl, rfl, c0, c1, hn, hI, hU⟩ := hJ
    obtain ⟨-, -, hf⟩ : (7 : Nat) = 7 ∧ IV σ ∧ ∀ σ', IV σ' → Un [32] σ σ' → K none σ' := hSp
    all_goals (repeat' (first | (with_reducible assumption) | (with_reducible (apply by8_9; assumption)) | (with_reducible (apply by8_4; assumption)) | (with_reducible (apply by8_22; assumption)) | (with_reducible (apply by8_g; assumption)) | (with_reducible refine IV_upd ?_ ?_) | (with_reducible refine IV_cpy ?_ (fun _ _ _ _ => trivial)) | (refine And.intro ?_ ?_) | (intro _)))
    all_goals first | (first | rfl | decide | exact Or.inl rfl | exact Or.inr (Or.inl rfl) | exact Or.inr (Or.inr rfl) | (simp only [nrm, strm, by8] at * <;> omega) | (simp [upd4, cpy4, nrm, strm, by8] at * <;> omega)) | (apply hf <;> (repeat' (first | assumption | exact trivial | exact Un_rf | (apply by8_4; assumption) | (apply by8_9; assumption) | (apply by8_22; assumption) | (apply by8_g; assumption) | (refine by8_13 ?_) | (apply rg34_of <;> assumption) | (refine rg_max ?_ ?_) | (apply rg_34; assumption) | (refine ixr_by8 ?_ ?_) | (refine IV_upd ?_ ?_) | (refine Un_upd rfl ?_) | (refine IV_cpy ?_ (fun _ _ _ _ => trivial)) | (refine Un_cpy rfl ?_) | (apply Un_tr; rotate_left; assumption; rfl) | (refine And.intro ?_ ?_))) <;> (first | rfl | decide | exact Or.inl rfl | exact Or.inr (Or.inl rfl) | exact Or.inr (Or.inr rfl) | (simp only [nrm, strm, by8] at * <;> omega) | (simp [upd4, cpy4, nrm, strm, by8] at * <;> omega))) | (refine ⟨((8 : Int) - (j + 1)).toNat, ?_, e, i, x, j + 1, rfl, rfl, rfl, rfl, rfl, rfl, ?_, ?_, rfl, ?_, ?_⟩ <;> (repeat' (first | assumption | exact trivial | exact Un_rf | (apply by8_4; assumption) | (apply by8_9; assumption) | (apply by8_22; assumption) | (apply by8_g; assumption) | (refine by8_13 ?_) | (apply rg34_of <;> assumption) | (refine rg_max ?_ ?_) | (apply rg_34; assumption) | (refine ixr_by8 ?_ ?_) | (refine IV_upd ?_ ?_) | (refine Un_upd rfl ?_) | (refine IV_cpy ?_ (fun _ _ _ _ => trivial)) | (refine Un_cpy rfl ?_) | (apply Un_tr; rotate_left; assumption; rfl) | (refine And.intro ?_ ?_))) <;> (first | rfl | decide | exact Or.inl rfl | exact Or.inr (Or.inl rfl) | exact Or.inr (Or.inr rfl) | (simp only [nrm, strm, by8] at * <;> omega) | (simp [upd4, cpy4, nrm, strm, by8] at * <;> omega))) | ((repeat' (first | assumption | exact trivial | exact Un_rf | (apply by8_4; assumption) | (apply by8_9; assumption) | (apply by8_22; assumption) | (apply by8_g; assumption) | (refine by8_13 ?_) | (apply rg34_of <;> assumption) | (refine rg_max ?_ ?_) | (apply rg_34; assumption) | (refine ixr_by8 ?_ ?_) | (refine IV_upd ?_ ?_) | (refine Un_upd rfl ?_) | (refine IV_cpy ?_ (fun _ _ _ _ => trivial)) | (refine Un_cpy rfl ?_) | (apply Un_tr; rotate_left; assumption; rfl) | (refine And.intro ?_ ?_))) <;> (first | rfl | decide | exact Or.inl rfl | exact Or.inr (Or.inl rfl) | exact Or.inr (Or.inr rfl) | (simp only [nrm, strm, by8] at * <;> omega) | (simp [upd4, cpy4, nrm, strm, by8] at * <;> omega)))
def gt_End_growRooms (a : Nat) : Option Nat := match a with
  | _ => none
theorem go_End_growRooms : ∀ a v, gt_End_growRooms a = some v → StaOK R_End a v := by
  intro a v h
  unfold gt_End_growRooms at h
  cases h
def pr_End_growRooms : List Ent := [(0, 0, 0, 1, 0), (1, 7, 2, 0, 0), (2, 3, 2, 0, 0), (3, 5, 0, 0, 0), (4, 39, 27, 0, 0), (7, 44, 0, 0, 0), (8, 35, 0, 0, 39), (11, 5, 0, 0, 0), (12, 39, 27, 0, 0), (15, 3, 2, 0, 0), (16, 43, 0, 0, 0), (17, 46, 128, 0, 0), (20, 27, 0, 0, 33), (23, 5, 0, 0, 0), (24, 39, 27, 0, 0), (27, 3, 2, 0, 0), (28, 43, 0, 0, 0), (29, 3, 1, 0, 0), (30, 46, 152, 0, 0), (33, 11, 2, 1, 0), (36, 38, 0, 0, 2), (39, 49, 0, 0, 0)]
def sw_End_growRooms : List Swt := []
theorem dk_End_growRooms : ∀ q ∈ pr_End_growRooms, decode b_End_growRooms q.1 = .ok (dec sw_End_growRooms q) ∧ okE q = true := by decide +kernel
theorem nt_End_growRooms : ∀ q ∈ pr_End_growRooms, ¬ q.2.1 = 55 := by decide +kernel
def ct_End_growRooms (a : Nat) : Option (Nat × Nat × CSp × Nat × Nat) := match a with
  | 128 => some (1, 6, sp_Stream_isIdle, 0, 0)
  | 152 => some (2, 6, sp_Stream_growRoom, 0, 0)
  | _ => none
theorem co_End_growRooms : ∀ a v, ct_End_growRooms a = some v → StcOK R_End 1 21 a v := by
  intro a v h
  unfold ct_End_growRooms at h
  split at h
  · cases h; exact ⟨y_Stream_isIdle, b_Stream_isIdle, 1, (some .boolean), 0, 0, 0, c_Stream_isIdle, by decide, by decide +kernel, by decide +kernel, by decide +kernel, Or.inl ⟨rfl, by decide, by decide +kernel, by decide +kernel, _, _, rfl, by decide +kernel⟩⟩
  · cases h; exact ⟨y_Stream_growRoom, b_Stream_growRoom, 2, none, 0, 0, 1, c_Stream_growRoom, by decide, by decide +kernel, by decide +kernel, by decide +kernel, Or.inl ⟨rfl, by decide, by decide +kernel, by decide +kernel, _, _, rfl, by decide +kernel⟩⟩
  · cases h
/-- End_growRooms -/
def sp_End_growRooms : CSp := sRI (fun q x σ K _ => q.1 = 7 ∧ IV σ ∧ ∀ σ', IV σ' → Un [32] σ σ' → K none σ')
set_option maxHeartbeats 4000000 in
set_option maxRecDepth 100000 in
theorem c_End_growRooms : Ctr y_End_growRooms b_End_growRooms 3 none 1 21 0 0 sp_End_growRooms := by
  refine ctr_of (FT := ft_End) (GT := gt_End_growRooms) (CT := ct_End_growRooms) (sw := sw_End_growRooms) (rt := 2) (pr := pr_End_growRooms) (by decide) [2] (fun av σ _ _ n pc L st σ' nc ns => ∃ e i x j, av = [.inr (7, e, i), .inl x] ∧ pc = 2 ∧ L = [some (.inr (7, e, i)), some (.inl x), some (.inl j)] ∧ st = [] ∧ nc = 0 ∧ ns = 0 ∧ 1 ≤ j ∧ j ≤ 8 ∧ n = (8 - j).toNat ∧ IV σ' ∧ Un [32] σ σ') 40 ⟨fun h => absurd h (by decide), fun h => absurd h (by decide), fun _ => rfl, fun h => absurd h (by decide)⟩ dk_End_growRooms fo_End go_End_growRooms co_End_growRooms (fun a k h hk => by unfold gt_End_growRooms at h; cases h) (fun q hq h => absurd h (nt_End_growRooms q hq)) (fun av σ K kx h => by rw [sRI_len h]; decide) ?_ ?_
  · intro av σ K kx hok hSp
    obtain ⟨q0, x0, rfl, hp⟩ := sRI_inv hSp
    obtain ⟨k0, e0, i0⟩ := q0
    obtain ⟨h0, hI, hf⟩ := hp
    dsimp only at h0; subst h0
    all_goals (repeat' (first | (with_reducible assumption) | (with_reducible (apply by8_9; assumption)) | (with_reducible (apply by8_4; assumption)) | (with_reducible (apply by8_22; assumption)) | (with_reducible (apply by8_g; assumption)) | (with_reducible refine IV_upd ?_ ?_) | (with_reducible refine IV_cpy ?_ (fun _ _ _ _ => trivial)) | (refine And.intro ?_ ?_) | (intro _)))
    all_goals first | (first | rfl | decide | exact Or.inl rfl | exact Or.inr (Or.inl rfl) | exact Or.inr (Or.inr rfl) | (simp only [nrm, strm, by8] at * <;> omega) | (simp [upd4, cpy4, nrm, strm, by8] at * <;> omega)) | (apply hf <;> (repeat' (first | assumption | exact trivial | exact Un_rf | (apply by8_4; assumption) | (apply by8_9; assumption) | (apply by8_22; assumption) | (apply by8_g; assumption) | (refine by8_13 ?_) | (apply rg34_of <;> assumption) | (refine rg_max ?_ ?_) | (apply rg_34; assumption) | (refine ixr_by8 ?_ ?_) | (refine IV_upd ?_ ?_) | (refine Un_upd rfl ?_) | (refine IV_cpy ?_ (fun _ _ _ _ => trivial)) | (refine Un_cpy rfl ?_) | (apply Un_tr; rotate_left; assumption; rfl) | (refine And.intro ?_ ?_))) <;> (first | rfl | decide | exact Or.inl rfl | exact Or.inr (Or.inl rfl) | exact Or.inr (Or.inr rfl) | (simp only [nrm, strm, by8] at * <;> omega) | (simp [upd4, cpy4, nrm, strm, by8] at * <;> omega))) | (refine ⟨((8 : Int) - (1)).toNat, e0, i0, x0, 1, rfl, rfl, rfl, rfl, rfl, rfl, ?_, ?_, rfl, ?_, ?_⟩ <;> (repeat' (first | assumption | exact trivial | exact Un_rf | (apply by8_4; assumption) | (apply by8_9; assumption) | (apply by8_22; assumption) | (apply by8_g; assumption) | (refine by8_13 ?_) | (apply rg34_of <;> assumption) | (refine rg_max ?_ ?_) | (apply rg_34; assumption) | (refine ixr_by8 ?_ ?_) | (refine IV_upd ?_ ?_) | (refine Un_upd rfl ?_) | (refine IV_cpy ?_ (fun _ _ _ _ => trivial)) | (refine Un_cpy rfl ?_) | (apply Un_tr; rotate_left; assumption; rfl) | (refine And.intro ?_ ?_))) <;> (first | rfl | decide | exact Or.inl rfl | exact Or.inr (Or.inl rfl) | exact Or.inr (Or.inr rfl) | (simp only [nrm, strm, by8] at * <;> omega) | (simp [upd4, cpy4, nrm, strm, by8] at * <;> omega))) | ((repeat' (first | assumption | exact trivial | exact Un_rf | (apply by8_4; assumption) | (apply by8_9; assumption) | (apply by8_22; assumption) | (apply by8_g; assumption) | (refine by8_13 ?_) | (apply rg34_of <;> assumption) | (refine rg_max ?_ ?_) | (apply rg_34; assumption) | (refine ixr_by8 ?_ ?_) | (refine IV_upd ?_ ?_) | (refine Un_upd rfl ?_) | (refine IV_cpy ?_ (fun _ _ _ _ => trivial)) | (refine Un_cpy rfl ?_) | (apply Un_tr; rotate_left; assumption; rfl) | (refine And.intro ?_ ?_))) <;> (first | rfl | decide | exact Or.inl rfl | exact Or.inr (Or.inl rfl) | exact Or.inr (Or.inr rfl) | (simp only [nrm, strm, by8] at * <;> omega) | (simp [upd4, cpy4, nrm, strm, by8] at * <;> omega)))
  · intro av σ K kx n pc L st σ' nc ns hok hSp hJ
    obtain ⟨e, i, x, j, rfl, rfl, rfl, rfl, rfl, rfl, c0, c1, hn, hI, hU⟩ := hJ
    obtain ⟨-, -, hf⟩ : (7 : Nat) = 7 ∧ IV σ ∧ ∀ σ', IV σ' → Un [32] σ σ' → K none σ' := hSp
    all_goals (repeat' (first | (with_reducible assumption) | (with_reducible (apply by8_9; assumption)) | (with_reducible (apply by8_4; assumption)) | (with_reducible (apply by8_22; assumption)) | (with_reducible (apply by8_g; assumption)) | (with_reducible refine IV_upd ?_ ?_) | (with_reducible refine IV_cpy ?_ (fun _ _ _ _ => trivial)) | (refine And.intro ?_ ?_) | (intro _)))
    all_goals first | (first | rfl | decide | exact Or.inl rfl | exact Or.inr (Or.inl rfl) | exact Or.inr (Or.inr rfl) | (simp only [nrm, strm, by8] at * <;> omega) | (simp [upd4, cpy4, nrm, strm, by8] at * <;> omega)) | (apply hf <;> (repeat' (first | assumption | exact trivial | exact Un_rf | (apply by8_4; assumption) | (apply by8_9; assumption) | (apply by8_22; assumption) | (apply by8_g; assumption) | (refine by8_13 ?_) | (apply rg34_of <;> assumption) | (refine rg_max ?_ ?_) | (apply rg_34; assumption) | (refine ixr_by8 ?_ ?_) | (refine IV_upd ?_ ?_) | (refine Un_upd rfl ?_) | (refine IV_cpy ?_ (fun _ _ _ _ => trivial)) | (refine Un_cpy rfl ?_) | (apply Un_tr; rotate_left; assumption; rfl) | (refine And.intro ?_ ?_))) <;> (first | rfl | decide | exact Or.inl rfl | exact Or.inr (Or.inl rfl) | exact Or.inr (Or.inr rfl) | (simp only [nrm, strm, by8] at * <;> omega) | (simp [upd4, cpy4, nrm, strm, by8] at * <;> omega))) | (refine ⟨((8 : Int) - (j + 1)).toNat, ?_, e, i, x, j + 1, rfl, rfl, rfl, rfl, rfl, rfl, ?_, ?_, rfl, ?_, ?_⟩ <;> (repeat' (first | assumption | exact trivial | exact Un_rf | (apply by8_4; assumption) | (apply by8_9; assumption) | (apply by8_22; assumption) | (apply by8_g; assumption) | (refine by8_13 ?_) | (apply rg34_of <;> assumption) | (refine rg_max ?_ ?_) | (apply rg_34; assumption) | (refine ixr_by8 ?_ ?_) | (refine IV_upd ?_ ?_) | (refine Un_upd rfl ?_) | (refine IV_cpy ?_ (fun _ _ _ _ => trivial)) | (refine Un_cpy rfl ?_) | (apply Un_tr; rotate_left; assumption; rfl) | (refine And.intro ?_ ?_))) <;> (first | rfl | decide | exact Or.inl rfl | exact Or.inr (Or.inl rfl) | exact Or.inr (Or.inr rfl) | (simp only [nrm, strm, by8] at * <;> omega) | (simp [upd4, cpy4, nrm, strm, by8] at * <;> omega))) | ((repeat' (first | assumption | exact trivial | exact Un_rf | (apply by8_4; assumption) | (apply by8_9; assumption) | (apply by8_22; assumption) | (apply by8_g; assumption) | (refine by8_13 ?_) | (apply rg34_of <;> assumption) | (refine rg_max ?_ ?_) | (apply rg_34; assumption) | (refine ixr_by8 ?_ ?_) | (refine IV_upd ?_ ?_) | (refine Un_upd rfl ?_) | (refine IV_cpy ?_ (fun _ _ _ _ => trivial)) | (refine Un_cpy rfl ?_) | (apply Un_tr; rotate_left; assumption; rfl) | (refine And.intro ?_ ?_))) <;> (first | rfl | decide | exact Or.inl rfl | exact Or.inr (Or.inl rfl) | exact Or.inr (Or.inr rfl) | (simp only [nrm, strm, by8] at * <;> omega) | (simp [upd4, cpy4, nrm, strm, by8] at * <;> omega)))
def gt_End_changeOwn (a : Nat) : Option Nat := match a with
  | _ => none
theorem go_End_changeOwn : ∀ a v, gt_End_changeOwn a = some v → StaOK R_End a v := by
  intro a v h
  unfold gt_End_changeOwn at h
  cases h
def pr_End_changeOwn : List Ent := [(0, 3, 1, 0, 0), (1, 28, 0, 0, 13), (4, 3, 1, 0, 0), (5, 5, 0, 0, 0), (6, 39, 40, 0, 0), (9, 44, 0, 0, 0), (10, 34, 0, 0, 15), (13, 0, 0, 0, 0), (14, 48, 0, 0, 0), (15, 5, 0, 0, 0), (16, 39, 40, 0, 0), (19, 3, 1, 0, 0), (20, 41, 0, 0, 0), (21, 7, 3, 0, 0), (22, 5, 0, 0, 0), (23, 39, 40, 0, 0), (26, 3, 1, 0, 0), (27, 3, 2, 0, 0), (28, 42, 0, 0, 0), (29, 3, 1, 0, 0), (30, 0, 0, 1, 0), (31, 33, 0, 0, 41), (34, 5, 0, 0, 0), (35, 3, 2, 0, 0), (36, 3, 3, 0, 0), (37, 13, 0, 0, 0), (38, 46, 162, 0, 0), (41, 5, 0, 0, 0), (42, 0, 0, 4, 0), (43, 3, 1, 0, 0), (44, 3, 2, 0, 0), (45, 46, 165, 0, 0), (48, 3, 3, 0, 0), (49, 48, 0, 0, 0)]
def sw_End_changeOwn : List Swt := []
theorem dk_End_changeOwn : ∀ q ∈ pr_End_changeOwn, decode b_End_changeOwn q.1 = .ok (dec sw_End_changeOwn q) ∧ okE q = true := by decide +kernel
theorem nt_End_changeOwn : ∀ q ∈ pr_End_changeOwn, ¬ q.2.1 = 55 := by decide +kernel
def ct_End_changeOwn (a : Nat) : Option (Nat × Nat × CSp × Nat × Nat) := match a with
  | 162 => some (2, 3, sp_End_growDues, 0, 0)
  | 165 => some (4, 3, sp_End_sendPair, 0, 0)
  | _ => none
theorem co_End_changeOwn : ∀ a v, ct_End_changeOwn a = some v → StcOK R_End 3 68 a v := by
  intro a v h
  unfold ct_End_changeOwn at h
  split at h
  · cases h; exact ⟨y_End_growDues, b_End_growDues, 3, none, 1, 21, 1, c_End_growDues, by decide, by decide +kernel, by decide +kernel, by decide +kernel, Or.inl ⟨rfl, by decide, by decide +kernel, by decide +kernel, _, _, rfl, by decide +kernel⟩⟩
  · cases h; exact ⟨y_End_sendPair, b_End_sendPair, 4, none, 2, 45, 3, c_End_sendPair, by decide, by decide +kernel, by decide +kernel, by decide +kernel, Or.inl ⟨rfl, by decide, by decide +kernel, by decide +kernel, _, _, rfl, by decide +kernel⟩⟩
  · cases h
/-- End_changeOwn -/
def sp_End_changeOwn : CSp := sRII (fun q x0 x1 σ K _ => q.1 = 7 ∧ IV σ ∧ by8 x0 ∧ by8 x1 ∧ ∀ r σ', IV σ' → Un [3, 4, 32, 33] σ σ' → K (some (.inl r)) σ')
set_option maxHeartbeats 4000000 in
set_option maxRecDepth 100000 in
theorem c_End_changeOwn : Ctr y_End_changeOwn b_End_changeOwn 4 (some .int) 3 68 0 0 sp_End_changeOwn := by
  refine ctr_of (FT := ft_End) (GT := gt_End_changeOwn) (CT := ct_End_changeOwn) (sw := sw_End_changeOwn) (rt := 0) (pr := pr_End_changeOwn) (by decide) [] (fun _ _ _ _ _ _ _ _ _ _ _ => False) 50 ⟨fun _ => rfl, fun h => absurd h (by decide), fun h => absurd h (by decide), fun h => absurd h (by decide)⟩ dk_End_changeOwn fo_End go_End_changeOwn co_End_changeOwn (fun a k h hk => by unfold gt_End_changeOwn at h; cases h) (fun q hq h => absurd h (nt_End_changeOwn q hq)) (fun av σ K kx h => by rw [sRII_len h]; decide) ?_ ?_
  · intro av σ K kx hok hSp
    obtain ⟨q0, x0, x1, rfl, hp⟩ := sRII_inv hSp
    obtain ⟨k0, e0, i0⟩ := q0
    obtain ⟨h0, hI, h2, h3, h4⟩ := hp
    dsimp only at h0; subst h0
    all_goals (repeat' (first | (with_reducible assumption) | (with_reducible (apply by8_9; assumption)) | (with_reducible (apply by8_4; assumption)) | (with_reducible (apply by8_22; assumption)) | (with_reducible (apply by8_g; assumption)) | (with_reducible refine IV_upd ?_ ?_) | (with_reducible refine IV_cpy ?_ (fun _ _ _ _ => trivial)) | (refine And.intro ?_ ?_) | (intro _)))
    all_goals first | (first | rfl | decide | exact Or.inl rfl | exact Or.inr (Or.inl rfl) | exact Or.inr (Or.inr rfl) | (simp only [nrm, strm, by8] at * <;> omega) | (simp [upd4, cpy4, nrm, strm, by8] at * <;> omega)) | (exact h4) | (refine h4 _ ?_ ?_ <;> (repeat' (first | assumption | exact trivial | exact Un_rf | (apply by8_4; assumption) | (apply by8_9; assumption) | (apply by8_22; assumption) | (apply by8_g; assumption) | (refine by8_13 ?_) | (apply rg34_of <;> assumption) | (refine rg_max ?_ ?_) | (apply rg_34; assumption) | (refine ixr_by8 ?_ ?_) | (refine IV_upd ?_ ?_) | (refine Un_upd rfl ?_) | (refine IV_cpy ?_ (fun _ _ _ _ => trivial)) | (refine Un_cpy rfl ?_) | (apply Un_tr; rotate_left; assumption; rfl) | (refine And.intro ?_ ?_))) <;> (first | rfl | decide | exact Or.inl rfl | exact Or.inr (Or.inl rfl) | exact Or.inr (Or.inr rfl) | (simp only [nrm, strm, by8] at * <;> omega) | (simp [upd4, cpy4, nrm, strm, by8] at * <;> omega))) | (apply h4 <;> (repeat' (first | assumption | exact trivial | exact Un_rf | (apply by8_4; assumption) | (apply by8_9; assumption) | (apply by8_22; assumption) | (apply by8_g; assumption) | (refine by8_13 ?_) | (apply rg34_of <;> assumption) | (refine rg_max ?_ ?_) | (apply rg_34; assumption) | (refine ixr_by8 ?_ ?_) | (refine IV_upd ?_ ?_) | (refine Un_upd rfl ?_) | (refine IV_cpy ?_ (fun _ _ _ _ => trivial)) | (refine Un_cpy rfl ?_) | (apply Un_tr; rotate_left; assumption; rfl) | (refine And.intro ?_ ?_))) <;> (first | rfl | decide | exact Or.inl rfl | exact Or.inr (Or.inl rfl) | exact Or.inr (Or.inr rfl) | (simp only [nrm, strm, by8] at * <;> omega) | (simp [upd4, cpy4, nrm, strm, by8] at * <;> omega))) | ((repeat' (first | assumption | exact trivial | exact Un_rf | (apply by8_4; assumption) | (apply by8_9; assumption) | (apply by8_22; assumption) | (apply by8_g; assumption) | (refine by8_13 ?_) | (apply rg34_of <;> assumption) | (refine rg_max ?_ ?_) | (apply rg_34; assumption) | (refine ixr_by8 ?_ ?_) | (refine IV_upd ?_ ?_) | (refine Un_upd rfl ?_) | (refine IV_cpy ?_ (fun _ _ _ _ => trivial)) | (refine Un_cpy rfl ?_) | (apply Un_tr; rotate_left; assumption; rfl) | (refine And.intro ?_ ?_))) <;> (first | rfl | decide | exact Or.inl rfl | exact Or.inr (Or.inl rfl) | exact Or.inr (Or.inr rfl) | (simp only [nrm, strm, by8] at * <;> omega) | (simp [upd4, cpy4, nrm, strm, by8] at * <;> omega)))
  · intro av σ K kx n pc L st σ' nc ns _ _ h
    exact (h : False).elim
def gt_End_shut (a : Nat) : Option Nat := match a with
  | _ => none
theorem go_End_shut : ∀ a v, gt_End_shut a = some v → StaOK R_End a v := by
  intro a v h
  unfold gt_End_shut at h
  cases h
def pr_End_shut : List Ent := [(0, 5, 0, 0, 0), (1, 1, 0, 7, 0), (3, 5, 0, 0, 0), (4, 39, 50, 0, 0), (7, 3, 1, 0, 0), (8, 46, 165, 0, 0), (11, 5, 0, 0, 0), (12, 3, 1, 0, 0), (13, 40, 59, 0, 0), (16, 49, 0, 0, 0)]
def sw_End_shut : List Swt := []
theorem dk_End_shut : ∀ q ∈ pr_End_shut, decode b_End_shut q.1 = .ok (dec sw_End_shut q) ∧ okE q = true := by decide +kernel
theorem nt_End_shut : ∀ q ∈ pr_End_shut, ¬ q.2.1 = 55 := by decide +kernel
def ct_End_shut (a : Nat) : Option (Nat × Nat × CSp × Nat × Nat) := match a with
  | 165 => some (4, 3, sp_End_sendPair, 0, 0)
  | _ => none
theorem co_End_shut : ∀ a v, ct_End_shut a = some v → StcOK R_End 3 68 a v := by
  intro a v h
  unfold ct_End_shut at h
  split at h
  · cases h; exact ⟨y_End_sendPair, b_End_sendPair, 4, none, 2, 45, 3, c_End_sendPair, by decide, by decide +kernel, by decide +kernel, by decide +kernel, Or.inl ⟨rfl, by decide, by decide +kernel, by decide +kernel, _, _, rfl, by decide +kernel⟩⟩
  · cases h
/-- End_shut -/
def sp_End_shut : CSp := sRI (fun q x σ K _ => q.1 = 7 ∧ IV σ ∧ by8 x ∧ ∀ σ', IV σ' → Un [3, 4, 7] σ σ' → K none σ')
set_option maxHeartbeats 4000000 in
set_option maxRecDepth 100000 in
theorem c_End_shut : Ctr y_End_shut b_End_shut 2 none 3 68 0 0 sp_End_shut := by
  refine ctr_of (FT := ft_End) (GT := gt_End_shut) (CT := ct_End_shut) (sw := sw_End_shut) (rt := 2) (pr := pr_End_shut) (by decide) [] (fun _ _ _ _ _ _ _ _ _ _ _ => False) 30 ⟨fun h => absurd h (by decide), fun h => absurd h (by decide), fun _ => rfl, fun h => absurd h (by decide)⟩ dk_End_shut fo_End go_End_shut co_End_shut (fun a k h hk => by unfold gt_End_shut at h; cases h) (fun q hq h => absurd h (nt_End_shut q hq)) (fun av σ K kx h => by rw [sRI_len h]; decide) ?_ ?_
  · intro av σ K kx hok hSp
    obtain ⟨q0, x0, rfl, hp⟩ := sRI_inv hSp
    obtain ⟨k0, e0, i0⟩ := q0
    obtain ⟨h0, hI, h2, h3⟩ := hp
    dsimp only at h0; subst h0
    have g1 : 0 ≤ σ 7 e0 i0 11 ∧ σ 7 e0 i0 11 ≤ 255 := hI 7 e0 i0 11
    all_goals (repeat' (first | (with_reducible assumption) | (with_reducible (apply by8_9; assumption)) | (with_reducible (apply by8_4; assumption)) | (with_reducible (apply by8_22; assumption)) | (with_reducible (apply by8_g; assumption)) | (with_reducible refine IV_upd ?_ ?_) | (with_reducible refine IV_cpy ?_ (fun _ _ _ _ => trivial)) | (refine And.intro ?_ ?_) | (intro _)))
    all_goals first | (first | rfl | decide | exact Or.inl rfl | exact Or.inr (Or.inl rfl) | exact Or.inr (Or.inr rfl) | (simp only [nrm, strm, by8] at * <;> omega) | (simp [upd4, cpy4, nrm, strm, by8] at * <;> omega)) | (exact h3) | (refine h3 _ ?_ ?_ <;> (repeat' (first | assumption | exact trivial | exact Un_rf | (apply by8_4; assumption) | (apply by8_9; assumption) | (apply by8_22; assumption) | (apply by8_g; assumption) | (refine by8_13 ?_) | (apply rg34_of <;> assumption) | (refine rg_max ?_ ?_) | (apply rg_34; assumption) | (refine ixr_by8 ?_ ?_) | (refine IV_upd ?_ ?_) | (refine Un_upd rfl ?_) | (refine IV_cpy ?_ (fun _ _ _ _ => trivial)) | (refine Un_cpy rfl ?_) | (apply Un_tr; rotate_left; assumption; rfl) | (refine And.intro ?_ ?_))) <;> (first | rfl | decide | exact Or.inl rfl | exact Or.inr (Or.inl rfl) | exact Or.inr (Or.inr rfl) | (simp only [nrm, strm, by8] at * <;> omega) | (simp [upd4, cpy4, nrm, strm, by8] at * <;> omega))) | (apply h3 <;> (repeat' (first | assumption | exact trivial | exact Un_rf | (apply by8_4; assumption) | (apply by8_9; assumption) | (apply by8_22; assumption) | (apply by8_g; assumption) | (refine by8_13 ?_) | (apply rg34_of <;> assumption) | (refine rg_max ?_ ?_) | (apply rg_34; assumption) | (refine ixr_by8 ?_ ?_) | (refine IV_upd ?_ ?_) | (refine Un_upd rfl ?_) | (refine IV_cpy ?_ (fun _ _ _ _ => trivial)) | (refine Un_cpy rfl ?_) | (apply Un_tr; rotate_left; assumption; rfl) | (refine And.intro ?_ ?_))) <;> (first | rfl | decide | exact Or.inl rfl | exact Or.inr (Or.inl rfl) | exact Or.inr (Or.inr rfl) | (simp only [nrm, strm, by8] at * <;> omega) | (simp [upd4, cpy4, nrm, strm, by8] at * <;> omega))) | ((repeat' (first | assumption | exact trivial | exact Un_rf | (apply by8_4; assumption) | (apply by8_9; assumption) | (apply by8_22; assumption) | (apply by8_g; assumption) | (refine by8_13 ?_) | (apply rg34_of <;> assumption) | (refine rg_max ?_ ?_) | (apply rg_34; assumption) | (refine ixr_by8 ?_ ?_) | (refine IV_upd ?_ ?_) | (refine Un_upd rfl ?_) | (refine IV_cpy ?_ (fun _ _ _ _ => trivial)) | (refine Un_cpy rfl ?_) | (apply Un_tr; rotate_left; assumption; rfl) | (refine And.intro ?_ ?_))) <;> (first | rfl | decide | exact Or.inl rfl | exact Or.inr (Or.inl rfl) | exact Or.inr (Or.inr rfl) | (simp only [nrm, strm, by8] at * <;> omega) | (simp [upd4, cpy4, nrm, strm, by8] at * <;> omega)))
  · intro av σ K kx n pc L st σ' nc ns _ _ h
    exact (h : False).elim
def gt_End_takeByte (a : Nat) : Option Nat := match a with
  | _ => none
theorem go_End_takeByte : ∀ a v, gt_End_takeByte a = some v → StaOK R_End a v := by
  intro a v h
  unfold gt_End_takeByte at h
  cases h
def pr_End_takeByte : List Ent := [(0, 5, 0, 0, 0), (1, 39, 76, 0, 0), (4, 5, 0, 0, 0), (5, 39, 66, 0, 0), (8, 46, 172, 0, 0), (11, 46, 175, 0, 0), (14, 5, 0, 0, 0), (15, 39, 76, 0, 0), (18, 46, 178, 0, 0), (21, 26, 0, 0, 30), (24, 5, 0, 0, 0), (25, 1, 0, 6, 0), (27, 46, 181, 0, 0), (30, 49, 0, 0, 0)]
def sw_End_takeByte : List Swt := []
theorem dk_End_takeByte : ∀ q ∈ pr_End_takeByte, decode b_End_takeByte q.1 = .ok (dec sw_End_takeByte q) ∧ okE q = true := by decide +kernel
theorem nt_End_takeByte : ∀ q ∈ pr_End_takeByte, ¬ q.2.1 = 55 := by decide +kernel
def ct_End_takeByte (a : Nat) : Option (Nat × Nat × CSp × Nat × Nat) := match a with
  | 172 => some (1, 8, sp_Wire_take, 0, 0)
  | 175 => some (2, 5, sp_Frame_add, 0, 0)
  | 178 => some (1, 5, sp_Frame_isTooLong, 0, 0)
  | 181 => some (2, 3, sp_End_shut, 0, 0)
  | _ => none
theorem co_End_takeByte : ∀ a v, ct_End_takeByte a = some v → StcOK R_End 4 89 a v := by
  intro a v h
  unfold ct_End_takeByte at h
  split at h
  · cases h; exact ⟨y_Wire_take, b_Wire_take, 2, (some .int), 0, 0, 0, c_Wire_take, by decide, by decide +kernel, by decide +kernel, by decide +kernel, Or.inl ⟨rfl, by decide, by decide +kernel, by decide +kernel, _, _, rfl, by decide +kernel⟩⟩
  · cases h; exact ⟨y_Frame_add, b_Frame_add, 2, none, 0, 0, 1, c_Frame_add, by decide, by decide +kernel, by decide +kernel, by decide +kernel, Or.inl ⟨rfl, by decide, by decide +kernel, by decide +kernel, _, _, rfl, by decide +kernel⟩⟩
  · cases h; exact ⟨y_Frame_isTooLong, b_Frame_isTooLong, 1, (some .boolean), 1, 20, 0, c_Frame_isTooLong, by decide, by decide +kernel, by decide +kernel, by decide +kernel, Or.inl ⟨rfl, by decide, by decide +kernel, by decide +kernel, _, _, rfl, by decide +kernel⟩⟩
  · cases h; exact ⟨y_End_shut, b_End_shut, 2, none, 3, 68, 1, c_End_shut, by decide, by decide +kernel, by decide +kernel, by decide +kernel, Or.inl ⟨rfl, by decide, by decide +kernel, by decide +kernel, _, _, rfl, by decide +kernel⟩⟩
  · cases h
/-- End_takeByte -/
def sp_End_takeByte : CSp := sR (fun q σ K _ => q.1 = 7 ∧ IV σ ∧ ∀ σ', IV σ' → Un [3, 4, 7, 8, 9] σ σ' → K none σ')
set_option maxHeartbeats 4000000 in
set_option maxRecDepth 100000 in
theorem c_End_takeByte : Ctr y_End_takeByte b_End_takeByte 1 none 4 89 0 0 sp_End_takeByte := by
  refine ctr_of (FT := ft_End) (GT := gt_End_takeByte) (CT := ct_End_takeByte) (sw := sw_End_takeByte) (rt := 2) (pr := pr_End_takeByte) (by decide) [] (fun _ _ _ _ _ _ _ _ _ _ _ => False) 30 ⟨fun h => absurd h (by decide), fun h => absurd h (by decide), fun _ => rfl, fun h => absurd h (by decide)⟩ dk_End_takeByte fo_End go_End_takeByte co_End_takeByte (fun a k h hk => by unfold gt_End_takeByte at h; cases h) (fun q hq h => absurd h (nt_End_takeByte q hq)) (fun av σ K kx h => by rw [sR_len h]; decide) ?_ ?_
  · intro av σ K kx hok hSp
    obtain ⟨q0, rfl, hp⟩ := sR_inv hSp
    obtain ⟨k0, e0, i0⟩ := q0
    obtain ⟨h0, hI, h2⟩ := hp
    dsimp only at h0; subst h0
    all_goals (repeat' (first | (with_reducible assumption) | (with_reducible (apply by8_9; assumption)) | (with_reducible (apply by8_4; assumption)) | (with_reducible (apply by8_22; assumption)) | (with_reducible (apply by8_g; assumption)) | (with_reducible refine IV_upd ?_ ?_) | (with_reducible refine IV_cpy ?_ (fun _ _ _ _ => trivial)) | (refine And.intro ?_ ?_) | (intro _)))
    all_goals first | (first | rfl | decide | exact Or.inl rfl | exact Or.inr (Or.inl rfl) | exact Or.inr (Or.inr rfl) | (simp only [nrm, strm, by8] at * <;> omega) | (simp [upd4, cpy4, nrm, strm, by8] at * <;> omega)) | (exact h2) | (refine h2 _ ?_ ?_ <;> (repeat' (first | assumption | exact trivial | exact Un_rf | (apply by8_4; assumption) | (apply by8_9; assumption) | (apply by8_22; assumption) | (apply by8_g; assumption) | (refine by8_13 ?_) | (apply rg34_of <;> assumption) | (refine rg_max ?_ ?_) | (apply rg_34; assumption) | (refine ixr_by8 ?_ ?_) | (refine IV_upd ?_ ?_) | (refine Un_upd rfl ?_) | (refine IV_cpy ?_ (fun _ _ _ _ => trivial)) | (refine Un_cpy rfl ?_) | (apply Un_tr; rotate_left; assumption; rfl) | (refine And.intro ?_ ?_))) <;> (first | rfl | decide | exact Or.inl rfl | exact Or.inr (Or.inl rfl) | exact Or.inr (Or.inr rfl) | (simp only [nrm, strm, by8] at * <;> omega) | (simp [upd4, cpy4, nrm, strm, by8] at * <;> omega))) | (apply h2 <;> (repeat' (first | assumption | exact trivial | exact Un_rf | (apply by8_4; assumption) | (apply by8_9; assumption) | (apply by8_22; assumption) | (apply by8_g; assumption) | (refine by8_13 ?_) | (apply rg34_of <;> assumption) | (refine rg_max ?_ ?_) | (apply rg_34; assumption) | (refine ixr_by8 ?_ ?_) | (refine IV_upd ?_ ?_) | (refine Un_upd rfl ?_) | (refine IV_cpy ?_ (fun _ _ _ _ => trivial)) | (refine Un_cpy rfl ?_) | (apply Un_tr; rotate_left; assumption; rfl) | (refine And.intro ?_ ?_))) <;> (first | rfl | decide | exact Or.inl rfl | exact Or.inr (Or.inl rfl) | exact Or.inr (Or.inr rfl) | (simp only [nrm, strm, by8] at * <;> omega) | (simp [upd4, cpy4, nrm, strm, by8] at * <;> omega))) | ((repeat' (first | assumption | exact trivial | exact Un_rf | (apply by8_4; assumption) | (apply by8_9; assumption) | (apply by8_22; assumption) | (apply by8_g; assumption) | (refine by8_13 ?_) | (apply rg34_of <;> assumption) | (refine rg_max ?_ ?_) | (apply rg_34; assumption) | (refine ixr_by8 ?_ ?_) | (refine IV_upd ?_ ?_) | (refine Un_upd rfl ?_) | (refine IV_cpy ?_ (fun _ _ _ _ => trivial)) | (refine Un_cpy rfl ?_) | (apply Un_tr; rotate_left; assumption; rfl) | (refine And.intro ?_ ?_))) <;> (first | rfl | decide | exact Or.inl rfl | exact Or.inr (Or.inl rfl) | exact Or.inr (Or.inr rfl) | (simp only [nrm, strm, by8] at * <;> omega) | (simp [upd4, cpy4, nrm, strm, by8] at * <;> omega)))
  · intro av σ K kx n pc L st σ' nc ns _ _ h
    exact (h : False).elim
def gt_End_hasWholeFrame (a : Nat) : Option Nat := match a with
  | _ => none
theorem go_End_hasWholeFrame : ∀ a v, gt_End_hasWholeFrame a = some v → StaOK R_End a v := by
  intro a v h
  unfold gt_End_hasWholeFrame at h
  cases h
def pr_End_hasWholeFrame : List Ent := [(0, 5, 0, 0, 0), (1, 39, 76, 0, 0), (4, 46, 184, 0, 0), (7, 48, 0, 0, 0)]
def sw_End_hasWholeFrame : List Swt := []
theorem dk_End_hasWholeFrame : ∀ q ∈ pr_End_hasWholeFrame, decode b_End_hasWholeFrame q.1 = .ok (dec sw_End_hasWholeFrame q) ∧ okE q = true := by decide +kernel
theorem nt_End_hasWholeFrame : ∀ q ∈ pr_End_hasWholeFrame, ¬ q.2.1 = 55 := by decide +kernel
def ct_End_hasWholeFrame (a : Nat) : Option (Nat × Nat × CSp × Nat × Nat) := match a with
  | 184 => some (1, 5, sp_Frame_isWhole, 0, 0)
  | _ => none
theorem co_End_hasWholeFrame : ∀ a v, ct_End_hasWholeFrame a = some v → StcOK R_End 2 40 a v := by
  intro a v h
  unfold ct_End_hasWholeFrame at h
  split at h
  · cases h; exact ⟨y_Frame_isWhole, b_Frame_isWhole, 1, (some .boolean), 1, 20, 0, c_Frame_isWhole, by decide, by decide +kernel, by decide +kernel, by decide +kernel, Or.inl ⟨rfl, by decide, by decide +kernel, by decide +kernel, _, _, rfl, by decide +kernel⟩⟩
  · cases h
/-- End_hasWholeFrame -/
def sp_End_hasWholeFrame : CSp := sR (fun q σ K _ => q.1 = 7 ∧ K (some (.inl 0)) σ ∧ K (some (.inl 1)) σ)
set_option maxHeartbeats 4000000 in
set_option maxRecDepth 100000 in
theorem c_End_hasWholeFrame : Ctr y_End_hasWholeFrame b_End_hasWholeFrame 1 (some .boolean) 2 40 0 0 sp_End_hasWholeFrame := by
  refine ctr_of (FT := ft_End) (GT := gt_End_hasWholeFrame) (CT := ct_End_hasWholeFrame) (sw := sw_End_hasWholeFrame) (rt := 1) (pr := pr_End_hasWholeFrame) (by decide) [] (fun _ _ _ _ _ _ _ _ _ _ _ => False) 20 ⟨fun h => absurd h (by decide), fun _ => rfl, fun h => absurd h (by decide), fun h => absurd h (by decide)⟩ dk_End_hasWholeFrame fo_End go_End_hasWholeFrame co_End_hasWholeFrame (fun a k h hk => by unfold gt_End_hasWholeFrame at h; cases h) (fun q hq h => absurd h (nt_End_hasWholeFrame q hq)) (fun av σ K kx h => by rw [sR_len h]; decide) ?_ ?_
  · intro av σ K kx hok hSp
    obtain ⟨q0, rfl, hp⟩ := sR_inv hSp
    obtain ⟨k0, e0, i0⟩ := q0
    obtain ⟨h0, h1, h2⟩ := hp
    dsimp only at h0; subst h0
    all_goals (repeat' (first | (with_reducible assumption) | (with_reducible (apply by8_9; assumption)) | (with_reducible (apply by8_4; assumption)) | (with_reducible (apply by8_22; assumption)) | (with_reducible (apply by8_g; assumption)) | (with_reducible refine IV_upd ?_ ?_) | (with_reducible refine IV_cpy ?_ (fun _ _ _ _ => trivial)) | (refine And.intro ?_ ?_) | (intro _)))
    all_goals first | (first | rfl | decide | exact Or.inl rfl | exact Or.inr (Or.inl rfl) | exact Or.inr (Or.inr rfl) | (simp only [nrm, strm, by8] at * <;> omega) | (simp [upd4, cpy4, nrm, strm, by8] at * <;> omega)) | (exact h1 (by first | assumption | (first | rfl | decide | exact Or.inl rfl | exact Or.inr (Or.inl rfl) | exact Or.inr (Or.inr rfl) | (simp only [nrm, strm, by8] at * <;> omega) | (simp [upd4, cpy4, nrm, strm, by8] at * <;> omega)))) | (exact h2 (by first | assumption | (first | rfl | decide | exact Or.inl rfl | exact Or.inr (Or.inl rfl) | exact Or.inr (Or.inr rfl) | (simp only [nrm, strm, by8] at * <;> omega) | (simp [upd4, cpy4, nrm, strm, by8] at * <;> omega)))) | (exact h1) | (exact h2) | (refine h1 _ ?_ ?_ <;> (repeat' (first | assumption | exact trivial | exact Un_rf | (apply by8_4; assumption) | (apply by8_9; assumption) | (apply by8_22; assumption) | (apply by8_g; assumption) | (refine by8_13 ?_) | (apply rg34_of <;> assumption) | (refine rg_max ?_ ?_) | (apply rg_34; assumption) | (refine ixr_by8 ?_ ?_) | (refine IV_upd ?_ ?_) | (refine Un_upd rfl ?_) | (refine IV_cpy ?_ (fun _ _ _ _ => trivial)) | (refine Un_cpy rfl ?_) | (apply Un_tr; rotate_left; assumption; rfl) | (refine And.intro ?_ ?_))) <;> (first | rfl | decide | exact Or.inl rfl | exact Or.inr (Or.inl rfl) | exact Or.inr (Or.inr rfl) | (simp only [nrm, strm, by8] at * <;> omega) | (simp [upd4, cpy4, nrm, strm, by8] at * <;> omega))) | (refine h2 _ ?_ ?_ <;> (repeat' (first | assumption | exact trivial | exact Un_rf | (apply by8_4; assumption) | (apply by8_9; assumption) | (apply by8_22; assumption) | (apply by8_g; assumption) | (refine by8_13 ?_) | (apply rg34_of <;> assumption) | (refine rg_max ?_ ?_) | (apply rg_34; assumption) | (refine ixr_by8 ?_ ?_) | (refine IV_upd ?_ ?_) | (refine Un_upd rfl ?_) | (refine IV_cpy ?_ (fun _ _ _ _ => trivial)) | (refine Un_cpy rfl ?_) | (apply Un_tr; rotate_left; assumption; rfl) | (refine And.intro ?_ ?_))) <;> (first | rfl | decide | exact Or.inl rfl | exact Or.inr (Or.inl rfl) | exact Or.inr (Or.inr rfl) | (simp only [nrm, strm, by8] at * <;> omega) | (simp [upd4, cpy4, nrm, strm, by8] at * <;> omega))) | (apply h1 <;> (repeat' (first | assumption | exact trivial | exact Un_rf | (apply by8_4; assumption) | (apply by8_9; assumption) | (apply by8_22; assumption) | (apply by8_g; assumption) | (refine by8_13 ?_) | (apply rg34_of <;> assumption) | (refine rg_max ?_ ?_) | (apply rg_34; assumption) | (refine ixr_by8 ?_ ?_) | (refine IV_upd ?_ ?_) | (refine Un_upd rfl ?_) | (refine IV_cpy ?_ (fun _ _ _ _ => trivial)) | (refine Un_cpy rfl ?_) | (apply Un_tr; rotate_left; assumption; rfl) | (refine And.intro ?_ ?_))) <;> (first | rfl | decide | exact Or.inl rfl | exact Or.inr (Or.inl rfl) | exact Or.inr (Or.inr rfl) | (simp only [nrm, strm, by8] at * <;> omega) | (simp [upd4, cpy4, nrm, strm, by8] at * <;> omega))) | (apply h2 <;> (repeat' (first | assumption | exact trivial | exact Un_rf | (apply by8_4; assumption) | (apply by8_9; assumption) | (apply by8_22; assumption) | (apply by8_g; assumption) | (refine by8_13 ?_) | (apply rg34_of <;> assumption) | (refine rg_max ?_ ?_) | (apply rg_34; assumption) | (refine ixr_by8 ?_ ?_) | (refine IV_upd ?_ ?_) | (refine Un_upd rfl ?_) | (refine IV_cpy ?_ (fun _ _ _ _ => trivial)) | (refine Un_cpy rfl ?_) | (apply Un_tr; rotate_left; assumption; rfl) | (refine And.intro ?_ ?_))) <;> (first | rfl | decide | exact Or.inl rfl | exact Or.inr (Or.inl rfl) | exact Or.inr (Or.inr rfl) | (simp only [nrm, strm, by8] at * <;> omega) | (simp [upd4, cpy4, nrm, strm, by8] at * <;> omega))) | ((repeat' (first | assumption | exact trivial | exact Un_rf | (apply by8_4; assumption) | (apply by8_9; assumption) | (apply by8_22; assumption) | (apply by8_g; assumption) | (refine by8_13 ?_) | (apply rg34_of <;> assumption) | (refine rg_max ?_ ?_) | (apply rg_34; assumption) | (refine ixr_by8 ?_ ?_) | (refine IV_upd ?_ ?_) | (refine Un_upd rfl ?_) | (refine IV_cpy ?_ (fun _ _ _ _ => trivial)) | (refine Un_cpy rfl ?_) | (apply Un_tr; rotate_left; assumption; rfl) | (refine And.intro ?_ ?_))) <;> (first | rfl | decide | exact Or.inl rfl | exact Or.inr (Or.inl rfl) | exact Or.inr (Or.inr rfl) | (simp only [nrm, strm, by8] at * <;> omega) | (simp [upd4, cpy4, nrm, strm, by8] at * <;> omega)))
  · intro av σ K kx n pc L st σ' nc ns _ _ h
    exact (h : False).elim
def gt_End_endFrame (a : Nat) : Option Nat := match a with
  | _ => none
theorem go_End_endFrame : ∀ a v, gt_End_endFrame a = some v → StaOK R_End a v := by
  intro a v h
  unfold gt_End_endFrame at h
  cases h
def pr_End_endFrame : List Ent := [(0, 5, 0, 0, 0), (1, 39, 76, 0, 0), (4, 46, 187, 0, 0), (7, 3, 1, 0, 0), (8, 26, 0, 0, 16), (11, 5, 0, 0, 0), (12, 3, 1, 0, 0), (13, 46, 181, 0, 0), (16, 49, 0, 0, 0)]
def sw_End_endFrame : List Swt := []
theorem dk_End_endFrame : ∀ q ∈ pr_End_endFrame, decode b_End_endFrame q.1 = .ok (dec sw_End_endFrame q) ∧ okE q = true := by decide +kernel
theorem nt_End_endFrame : ∀ q ∈ pr_End_endFrame, ¬ q.2.1 = 55 := by decide +kernel
def ct_End_endFrame (a : Nat) : Option (Nat × Nat × CSp × Nat × Nat) := match a with
  | 181 => some (2, 3, sp_End_shut, 0, 0)
  | 187 => some (1, 5, sp_Frame_clear, 0, 0)
  | _ => none
theorem co_End_endFrame : ∀ a v, ct_End_endFrame a = some v → StcOK R_End 4 89 a v := by
  intro a v h
  unfold ct_End_endFrame at h
  split at h
  · cases h; exact ⟨y_End_shut, b_End_shut, 2, none, 3, 68, 1, c_End_shut, by decide, by decide +kernel, by decide +kernel, by decide +kernel, Or.inl ⟨rfl, by decide, by decide +kernel, by decide +kernel, _, _, rfl, by decide +kernel⟩⟩
  · cases h; exact ⟨y_Frame_clear, b_Frame_clear, 1, none, 0, 0, 0, c_Frame_clear, by decide, by decide +kernel, by decide +kernel, by decide +kernel, Or.inl ⟨rfl, by decide, by decide +kernel, by decide +kernel, _, _, rfl, by decide +kernel⟩⟩
  · cases h
/-- End_endFrame -/
def sp_End_endFrame : CSp := sRI (fun q x σ K _ => q.1 = 7 ∧ IV σ ∧ by8 x ∧ ∀ σ', IV σ' → Un [3, 4, 7, 8, 9] σ σ' → K none σ')
set_option maxHeartbeats 4000000 in
set_option maxRecDepth 100000 in
theorem c_End_endFrame : Ctr y_End_endFrame b_End_endFrame 2 none 4 89 0 0 sp_End_endFrame := by
  refine ctr_of (FT := ft_End) (GT := gt_End_endFrame) (CT := ct_End_endFrame) (sw := sw_End_endFrame) (rt := 2) (pr := pr_End_endFrame) (by decide) [] (fun _ _ _ _ _ _ _ _ _ _ _ => False) 20 ⟨fun h => absurd h (by decide), fun h => absurd h (by decide), fun _ => rfl, fun h => absurd h (by decide)⟩ dk_End_endFrame fo_End go_End_endFrame co_End_endFrame (fun a k h hk => by unfold gt_End_endFrame at h; cases h) (fun q hq h => absurd h (nt_End_endFrame q hq)) (fun av σ K kx h => by rw [sRI_len h]; decide) ?_ ?_
  · intro av σ K kx hok hSp
    obtain ⟨q0, x0, rfl, hp⟩ := sRI_inv hSp
    obtain ⟨k0, e0, i0⟩ := q0
    obtain ⟨h0, hI, h2, h3⟩ := hp
    dsimp only at h0; subst h0
    all_goals (repeat' (first | (with_reducible assumption) | (with_reducible (apply by8_9; assumption)) | (with_reducible (apply by8_4; assumption)) | (with_reducible (apply by8_22; assumption)) | (with_reducible (apply by8_g; assumption)) | (with_reducible refine IV_upd ?_ ?_) | (with_reducible refine IV_cpy ?_ (fun _ _ _ _ => trivial)) | (refine And.intro ?_ ?_) | (intro _)))
    all_goals first | (first | rfl | decide | exact Or.inl rfl | exact Or.inr (Or.inl rfl) | exact Or.inr (Or.inr rfl) | (simp only [nrm, strm, by8] at * <;> omega) | (simp [upd4, cpy4, nrm, strm, by8] at * <;> omega)) | (exact h3) | (refine h3 _ ?_ ?_ <;> (repeat' (first | assumption | exact trivial | exact Un_rf | (apply by8_4; assumption) | (apply by8_9; assumption) | (apply by8_22; assumption) | (apply by8_g; assumption) | (refine by8_13 ?_) | (apply rg34_of <;> assumption) | (refine rg_max ?_ ?_) | (apply rg_34; assumption) | (refine ixr_by8 ?_ ?_) | (refine IV_upd ?_ ?_) | (refine Un_upd rfl ?_) | (refine IV_cpy ?_ (fun _ _ _ _ => trivial)) | (refine Un_cpy rfl ?_) | (apply Un_tr; rotate_left; assumption; rfl) | (refine And.intro ?_ ?_))) <;> (first | rfl | decide | exact Or.inl rfl | exact Or.inr (Or.inl rfl) | exact Or.inr (Or.inr rfl) | (simp only [nrm, strm, by8] at * <;> omega) | (simp [upd4, cpy4, nrm, strm, by8] at * <;> omega))) | (apply h3 <;> (repeat' (first | assumption | exact trivial | exact Un_rf | (apply by8_4; assumption) | (apply by8_9; assumption) | (apply by8_22; assumption) | (apply by8_g; assumption) | (refine by8_13 ?_) | (apply rg34_of <;> assumption) | (refine rg_max ?_ ?_) | (apply rg_34; assumption) | (refine ixr_by8 ?_ ?_) | (refine IV_upd ?_ ?_) | (refine Un_upd rfl ?_) | (refine IV_cpy ?_ (fun _ _ _ _ => trivial)) | (refine Un_cpy rfl ?_) | (apply Un_tr; rotate_left; assumption; rfl) | (refine And.intro ?_ ?_))) <;> (first | rfl | decide | exact Or.inl rfl | exact Or.inr (Or.inl rfl) | exact Or.inr (Or.inr rfl) | (simp only [nrm, strm, by8] at * <;> omega) | (simp [upd4, cpy4, nrm, strm, by8] at * <;> omega))) | ((repeat' (first | assumption | exact trivial | exact Un_rf | (apply by8_4; assumption) | (apply by8_9; assumption) | (apply by8_22; assumption) | (apply by8_g; assumption) | (refine by8_13 ?_) | (apply rg34_of <;> assumption) | (refine rg_max ?_ ?_) | (apply rg_34; assumption) | (refine ixr_by8 ?_ ?_) | (refine IV_upd ?_ ?_) | (refine Un_upd rfl ?_) | (refine IV_cpy ?_ (fun _ _ _ _ => trivial)) | (refine Un_cpy rfl ?_) | (apply Un_tr; rotate_left; assumption; rfl) | (refine And.intro ?_ ?_))) <;> (first | rfl | decide | exact Or.inl rfl | exact Or.inr (Or.inl rfl) | exact Or.inr (Or.inr rfl) | (simp only [nrm, strm, by8] at * <;> omega) | (simp [upd4, cpy4, nrm, strm, by8] at * <;> omega)))
  · intro av σ K kx n pc L st σ' nc ns _ _ h
    exact (h : False).elim
end
section
def gt_End_hearReset (a : Nat) : Option Nat := match a with
  | _ => none
theorem go_End_hearReset : ∀ a v, gt_End_hearReset a = some v → StaOK R_End a v := by
  intro a v h
  unfold gt_End_hearReset at h
  cases h
def pr_End_hearReset : List Ent := [(0, 5, 0, 0, 0), (1, 5, 0, 0, 0), (2, 39, 76, 0, 0), (5, 46, 216, 0, 0), (8, 46, 124, 0, 0), (11, 9, 1, 0, 0), (12, 5, 1, 0, 0), (13, 46, 128, 0, 0), (16, 26, 0, 0, 21), (19, 0, 0, 1, 0), (20, 48, 0, 0, 0), (21, 5, 1, 0, 0), (22, 46, 155, 0, 0), (25, 0, 0, 0, 0), (26, 48, 0, 0, 0)]
def sw_End_hearReset : List Swt := []
theorem dk_End_hearReset : ∀ q ∈ pr_End_hearReset, decode b_End_hearReset q.1 = .ok (dec sw_End_hearReset q) ∧ okE q = true := by decide +kernel
theorem nt_End_hearReset : ∀ q ∈ pr_End_hearReset, ¬ q.2.1 = 55 := by decide +kernel
def ct_End_hearReset (a : Nat) : Option (Nat × Nat × CSp × Nat × Nat) := match a with
  | 124 => some (2, 3, sp_End_find, 0, 0)
  | 128 => some (1, 6, sp_Stream_isIdle, 0, 0)
  | 155 => some (1, 6, sp_Stream_close, 0, 0)
  | 216 => some (1, 5, sp_Frame_streamNumber, 0, 0)
  | _ => none
theorem co_End_hearReset : ∀ a v, ct_End_hearReset a = some v → StcOK R_End 2 41 a v := by
  intro a v h
  unfold ct_End_hearReset at h
  split at h
  · cases h; exact ⟨y_End_find, b_End_find, 2, (some (.object "FrameStreams$Stream")), 1, 20, 1, c_End_find, by decide, by decide +kernel, by decide +kernel, by decide +kernel, Or.inl ⟨rfl, by decide, by decide +kernel, by decide +kernel, _, _, rfl, by decide +kernel⟩⟩
  · cases h; exact ⟨y_Stream_isIdle, b_Stream_isIdle, 1, (some .boolean), 0, 0, 0, c_Stream_isIdle, by decide, by decide +kernel, by decide +kernel, by decide +kernel, Or.inl ⟨rfl, by decide, by decide +kernel, by decide +kernel, _, _, rfl, by decide +kernel⟩⟩
  · cases h; exact ⟨y_Stream_close, b_Stream_close, 1, none, 0, 0, 0, c_Stream_close, by decide, by decide +kernel, by decide +kernel, by decide +kernel, Or.inl ⟨rfl, by decide, by decide +kernel, by decide +kernel, _, _, rfl, by decide +kernel⟩⟩
  · cases h; exact ⟨y_Frame_streamNumber, b_Frame_streamNumber, 1, (some .int), 0, 0, 0, c_Frame_streamNumber, by decide, by decide +kernel, by decide +kernel, by decide +kernel, Or.inl ⟨rfl, by decide, by decide +kernel, by decide +kernel, _, _, rfl, by decide +kernel⟩⟩
  · cases h
/-- End_hearReset -/
def sp_End_hearReset : CSp := sR (fun q σ K _ => q.1 = 7 ∧ IV σ ∧ ∀ r σ', by8 r → IV σ' → Un [32] σ σ' → K (some (.inl r)) σ')
set_option maxHeartbeats 4000000 in
set_option maxRecDepth 100000 in
theorem c_End_hearReset : Ctr y_End_hearReset b_End_hearReset 2 (some .int) 2 41 0 0 sp_End_hearReset := by
  refine ctr_of (FT := ft_End) (GT := gt_End_hearReset) (CT := ct_End_hearReset) (sw := sw_End_hearReset) (rt := 0) (pr := pr_End_hearReset) (by decide) [] (fun _ _ _ _ _ _ _ _ _ _ _ => False) 30 ⟨fun _ => rfl, fun h => absurd h (by decide), fun h => absurd h (by decide), fun h => absurd h (by decide)⟩ dk_End_hearReset fo_End go_End_hearReset co_End_hearReset (fun a k h hk => by unfold gt_End_hearReset at h; cases h) (fun q hq h => absurd h (nt_End_hearReset q hq)) (fun av σ K kx h => by rw [sR_len h]; decide) ?_ ?_
  · intro av σ K kx hok hSp
    obtain ⟨q0, rfl, hp⟩ := sR_inv hSp
    obtain ⟨k0, e0, i0⟩ := q0
    obtain ⟨h0, hI, h2⟩ := hp
    dsimp only at h0; subst h0
    all_goals (repeat' (first | (with_reducible assumption) | (with_reducible (apply by8_9; assumption)) | (with_reducible (apply by8_4; assumption)) | (with_reducible (apply by8_22; assumption)) | (with_reducible (apply by8_g; assumption)) | (with_reducible refine IV_upd ?_ ?_) | (with_reducible refine IV_cpy ?_ (fun _ _ _ _ => trivial)) | (refine And.intro ?_ ?_) | (intro _)))
    all_goals first | (exact h2) | (refine h2 _ ?_ ?_ <;> (repeat' (first | assumption | exact trivial | exact Un_rf | (apply by8_4; assumption) | (apply by8_9; assumption) | (apply by8_22; assumption) | (apply by8_g; assumption) | (refine by8_13 ?_) | (apply rg34_of <;> assumption) | (refine rg_max ?_ ?_) | (apply rg_34; assumption) | (refine ixr_by8 ?_ ?_) | (refine IV_upd ?_ ?_) | (refine Un_upd rfl ?_) | (refine IV_cpy ?_ (fun _ _ _ _ => trivial)) | (refine Un_cpy rfl ?_) | (apply Un_tr; rotate_left; assumption; rfl) | (refine And.intro ?_ ?_))) <;> (first | rfl | decide | exact Or.inl rfl | exact Or.inr (Or.inl rfl) | exact Or.inr (Or.inr rfl) | (simp only [nrm, strm, by8] at * <;> omega) | (simp [upd4, cpy4, nrm, strm, by8] at * <;> omega))) | (apply h2 <;> (repeat' (first | assumption | exact trivial | exact Un_rf | (apply by8_4; assumption) | (apply by8_9; assumption) | (apply by8_22; assumption) | (apply by8_g; assumption) | (refine by8_13 ?_) | (apply rg34_of <;> assumption) | (refine rg_max ?_ ?_) | (apply rg_34; assumption) | (refine ixr_by8 ?_ ?_) | (refine IV_upd ?_ ?_) | (refine Un_upd rfl ?_) | (refine IV_cpy ?_ (fun _ _ _ _ => trivial)) | (refine Un_cpy rfl ?_) | (apply Un_tr; rotate_left; assumption; rfl) | (refine And.intro ?_ ?_))) <;> (first | rfl | decide | exact Or.inl rfl | exact Or.inr (Or.inl rfl) | exact Or.inr (Or.inr rfl) | (simp only [nrm, strm, by8] at * <;> omega) | (simp [upd4, cpy4, nrm, strm, by8] at * <;> omega))) | (first | rfl | decide | exact Or.inl rfl | exact Or.inr (Or.inl rfl) | exact Or.inr (Or.inr rfl) | (simp only [nrm, strm, by8] at * <;> omega) | (simp [upd4, cpy4, nrm, strm, by8] at * <;> omega)) | ((repeat' (first | assumption | exact trivial | exact Un_rf | (apply by8_4; assumption) | (apply by8_9; assumption) | (apply by8_22; assumption) | (apply by8_g; assumption) | (refine by8_13 ?_) | (apply rg34_of <;> assumption) | (refine rg_max ?_ ?_) | (apply rg_34; assumption) | (refine ixr_by8 ?_ ?_) | (refine IV_upd ?_ ?_) | (refine Un_upd rfl ?_) | (refine IV_cpy ?_ (fun _ _ _ _ => trivial)) | (refine Un_cpy rfl ?_) | (apply Un_tr; rotate_left; assumption; rfl) | (refine And.intro ?_ ?_))) <;> (first | rfl | decide | exact Or.inl rfl | exact Or.inr (Or.inl rfl) | exact Or.inr (Or.inr rfl) | (simp only [nrm, strm, by8] at * <;> omega) | (simp [upd4, cpy4, nrm, strm, by8] at * <;> omega)))
  · intro av σ K kx n pc L st σ' nc ns _ _ h
    exact (h : False).elim
def gt_End_hearPing (a : Nat) : Option Nat := match a with
  | _ => none
theorem go_End_hearPing : ∀ a v, gt_End_hearPing a = some v → StaOK R_End a v := by
  intro a v h
  unfold gt_End_hearPing at h
  cases h
def pr_End_hearPing : List Ent := [(0, 5, 0, 0, 0), (1, 39, 76, 0, 0), (4, 46, 240, 0, 0), (7, 26, 0, 0, 22), (10, 5, 0, 0, 0), (11, 23, 0, 0, 0), (12, 39, 53, 0, 0), (15, 0, 0, 1, 0), (16, 12, 0, 0, 0), (17, 40, 53, 0, 0), (20, 0, 0, 0, 0), (21, 48, 0, 0, 0), (22, 5, 0, 0, 0), (23, 1, 0, 6, 0), (25, 0, 0, 1, 0), (26, 0, 0, 0, 0), (27, 5, 0, 0, 0), (28, 39, 76, 0, 0), (31, 0, 0, 0, 0), (32, 46, 209, 0, 0), (35, 46, 158, 0, 0), (38, 48, 0, 0, 0)]
def sw_End_hearPing : List Swt := []
theorem dk_End_hearPing : ∀ q ∈ pr_End_hearPing, decode b_End_hearPing q.1 = .ok (dec sw_End_hearPing q) ∧ okE q = true := by decide +kernel
theorem nt_End_hearPing : ∀ q ∈ pr_End_hearPing, ¬ q.2.1 = 55 := by decide +kernel
def ct_End_hearPing (a : Nat) : Option (Nat × Nat × CSp × Nat × Nat) := match a with
  | 158 => some (5, 3, sp_End_sendByte, 0, 0)
  | 209 => some (2, 5, sp_Frame_at, 0, 0)
  | 240 => some (1, 5, sp_Frame_isFlagged, 0, 0)
  | _ => none
theorem co_End_hearPing : ∀ a v, ct_End_hearPing a = some v → StcOK R_End 3 69 a v := by
  intro a v h
  unfold ct_End_hearPing at h
  split at h
  · cases h; exact ⟨y_End_sendByte, b_End_sendByte, 5, (some .int), 2, 45, 4, c_End_sendByte, by decide, by decide +kernel, by decide +kernel, by decide +kernel, Or.inl ⟨rfl, by decide, by decide +kernel, by decide +kernel, _, _, rfl, by decide +kernel⟩⟩
  · cases h; exact ⟨y_Frame_at, b_Frame_at, 2, (some .int), 0, 0, 1, c_Frame_at, by decide, by decide +kernel, by decide +kernel, by decide +kernel, Or.inl ⟨rfl, by decide, by decide +kernel, by decide +kernel, _, _, rfl, by decide +kernel⟩⟩
  · cases h; exact ⟨y_Frame_isFlagged, b_Frame_isFlagged, 1, (some .boolean), 0, 0, 0, c_Frame_isFlagged, by decide, by decide +kernel, by decide +kernel, by decide +kernel, Or.inl ⟨rfl, by decide, by decide +kernel, by decide +kernel, _, _, rfl, by decide +kernel⟩⟩
  · cases h
/-- End_hearPing -/
def sp_End_hearPing : CSp := sR (fun q σ K _ => q.1 = 7 ∧ IV σ ∧ ∀ r σ', by8 r → IV σ' → Un [3, 4, 7] σ σ' → K (some (.inl r)) σ')
set_option maxHeartbeats 4000000 in
set_option maxRecDepth 100000 in
theorem c_End_hearPing : Ctr y_End_hearPing b_End_hearPing 1 (some .int) 3 69 0 0 sp_End_hearPing := by
  refine ctr_of (FT := ft_End) (GT := gt_End_hearPing) (CT := ct_End_hearPing) (sw := sw_End_hearPing) (rt := 0) (pr := pr_End_hearPing) (by decide) [] (fun _ _ _ _ _ _ _ _ _ _ _ => False) 40 ⟨fun _ => rfl, fun h => absurd h (by decide), fun h => absurd h (by decide), fun h => absurd h (by decide)⟩ dk_End_hearPing fo_End go_End_hearPing co_End_hearPing (fun a k h hk => by unfold gt_End_hearPing at h; cases h) (fun q hq h => absurd h (nt_End_hearPing q hq)) (fun av σ K kx h => by rw [sR_len h]; decide) ?_ ?_
  · intro av σ K kx hok hSp
    obtain ⟨q0, rfl, hp⟩ := sR_inv hSp
    obtain ⟨k0, e0, i0⟩ := q0
    obtain ⟨h0, hI, h2⟩ := hp
    dsimp only at h0; subst h0
    all_goals (repeat' (first | (with_reducible assumption) | (with_reducible (apply by8_9; assumption)) | (with_reducible (apply by8_4; assumption)) | (with_reducible (apply by8_22; assumption)) | (with_reducible (apply by8_g; assumption)) | (with_reducible refine IV_upd ?_ ?_) | (with_reducible refine IV_cpy ?_ (fun _ _ _ _ => trivial)) | (refine And.intro ?_ ?_) | (intro _)))
    all_goals first | (exact h2) | (refine h2 _ ?_ ?_ <;> (repeat' (first | assumption | exact trivial | exact Un_rf | (apply by8_4; assumption) | (apply by8_9; assumption) | (apply by8_22; assumption) | (apply by8_g; assumption) | (refine by8_13 ?_) | (apply rg34_of <;> assumption) | (refine rg_max ?_ ?_) | (apply rg_34; assumption) | (refine ixr_by8 ?_ ?_) | (refine IV_upd ?_ ?_) | (refine Un_upd rfl ?_) | (refine IV_cpy ?_ (fun _ _ _ _ => trivial)) | (refine Un_cpy rfl ?_) | (apply Un_tr; rotate_left; assumption; rfl) | (refine And.intro ?_ ?_))) <;> (first | rfl | decide | exact Or.inl rfl | exact Or.inr (Or.inl rfl) | exact Or.inr (Or.inr rfl) | (simp only [nrm, strm, by8] at * <;> omega) | (simp [upd4, cpy4, nrm, strm, by8] at * <;> omega))) | (apply h2 <;> (repeat' (first | assumption | exact trivial | exact Un_rf | (apply by8_4; assumption) | (apply by8_9; assumption) | (apply by8_22; assumption) | (apply by8_g; assumption) | (refine by8_13 ?_) | (apply rg34_of <;> assumption) | (refine rg_max ?_ ?_) | (apply rg_34; assumption) | (refine ixr_by8 ?_ ?_) | (refine IV_upd ?_ ?_) | (refine Un_upd rfl ?_) | (refine IV_cpy ?_ (fun _ _ _ _ => trivial)) | (refine Un_cpy rfl ?_) | (apply Un_tr; rotate_left; assumption; rfl) | (refine And.intro ?_ ?_))) <;> (first | rfl | decide | exact Or.inl rfl | exact Or.inr (Or.inl rfl) | exact Or.inr (Or.inr rfl) | (simp only [nrm, strm, by8] at * <;> omega) | (simp [upd4, cpy4, nrm, strm, by8] at * <;> omega))) | (first | rfl | decide | exact Or.inl rfl | exact Or.inr (Or.inl rfl) | exact Or.inr (Or.inr rfl) | (simp only [nrm, strm, by8] at * <;> omega) | (simp [upd4, cpy4, nrm, strm, by8] at * <;> omega)) | ((repeat' (first | assumption | exact trivial | exact Un_rf | (apply by8_4; assumption) | (apply by8_9; assumption) | (apply by8_22; assumption) | (apply by8_g; assumption) | (refine by8_13 ?_) | (apply rg34_of <;> assumption) | (refine rg_max ?_ ?_) | (apply rg_34; assumption) | (refine ixr_by8 ?_ ?_) | (refine IV_upd ?_ ?_) | (refine Un_upd rfl ?_) | (refine IV_cpy ?_ (fun _ _ _ _ => trivial)) | (refine Un_cpy rfl ?_) | (apply Un_tr; rotate_left; assumption; rfl) | (refine And.intro ?_ ?_))) <;> (first | rfl | decide | exact Or.inl rfl | exact Or.inr (Or.inl rfl) | exact Or.inr (Or.inr rfl) | (simp only [nrm, strm, by8] at * <;> omega) | (simp [upd4, cpy4, nrm, strm, by8] at * <;> omega)))
  · intro av σ K kx n pc L st σ' nc ns _ _ h
    exact (h : False).elim
def gt_End_hearWindow (a : Nat) : Option Nat := match a with
  | _ => none
theorem go_End_hearWindow : ∀ a v, gt_End_hearWindow a = some v → StaOK R_End a v := by
  intro a v h
  unfold gt_End_hearWindow at h
  cases h
def pr_End_hearWindow : List Ent := [(0, 5, 0, 0, 0), (1, 39, 76, 0, 0), (4, 0, 0, 0, 0), (5, 46, 209, 0, 0), (8, 7, 1, 0, 0), (9, 5, 0, 0, 0), (10, 5, 0, 0, 0), (11, 39, 76, 0, 0), (14, 46, 216, 0, 0), (17, 46, 124, 0, 0), (20, 9, 2, 0, 0), (21, 3, 1, 0, 0), (22, 26, 0, 0, 32), (25, 5, 2, 0, 0), (26, 46, 128, 0, 0), (29, 26, 0, 0, 34), (32, 0, 0, 1, 0), (33, 48, 0, 0, 0), (34, 5, 2, 0, 0), (35, 46, 262, 0, 0), (38, 26, 0, 0, 43), (41, 0, 0, 0, 0), (42, 48, 0, 0, 0), (43, 5, 2, 0, 0), (44, 46, 265, 0, 0), (47, 3, 1, 0, 0), (48, 12, 0, 0, 0), (49, 2, 0, 250, 0), (52, 37, 0, 0, 57), (55, 0, 0, 3, 0), (56, 48, 0, 0, 0), (57, 5, 2, 0, 0), (58, 3, 1, 0, 0), (59, 46, 152, 0, 0), (62, 0, 0, 0, 0), (63, 48, 0, 0, 0)]
def sw_End_hearWindow : List Swt := []
theorem dk_End_hearWindow : ∀ q ∈ pr_End_hearWindow, decode b_End_hearWindow q.1 = .ok (dec sw_End_hearWindow q) ∧ okE q = true := by decide +kernel
theorem nt_End_hearWindow : ∀ q ∈ pr_End_hearWindow, ¬ q.2.1 = 55 := by decide +kernel
def ct_End_hearWindow (a : Nat) : Option (Nat × Nat × CSp × Nat × Nat) := match a with
  | 124 => some (2, 3, sp_End_find, 0, 0)
  | 128 => some (1, 6, sp_Stream_isIdle, 0, 0)
  | 152 => some (2, 6, sp_Stream_growRoom, 0, 0)
  | 209 => some (2, 5, sp_Frame_at, 0, 0)
  | 216 => some (1, 5, sp_Frame_streamNumber, 0, 0)
  | 262 => some (1, 6, sp_Stream_isClosed, 0, 0)
  | 265 => some (1, 6, sp_Stream_room, 0, 0)
  | _ => none
theorem co_End_hearWindow : ∀ a v, ct_End_hearWindow a = some v → StcOK R_End 2 41 a v := by
  intro a v h
  unfold ct_End_hearWindow at h
  split at h
  · cases h; exact ⟨y_End_find, b_End_find, 2, (some (.object "FrameStreams$Stream")), 1, 20, 1, c_End_find, by decide, by decide +kernel, by decide +kernel, by decide +kernel, Or.inl ⟨rfl, by decide, by decide +kernel, by decide +kernel, _, _, rfl, by decide +kernel⟩⟩
  · cases h; exact ⟨y_Stream_isIdle, b_Stream_isIdle, 1, (some .boolean), 0, 0, 0, c_Stream_isIdle, by decide, by decide +kernel, by decide +kernel, by decide +kernel, Or.inl ⟨rfl, by decide, by decide +kernel, by decide +kernel, _, _, rfl, by decide +kernel⟩⟩
  · cases h; exact ⟨y_Stream_growRoom, b_Stream_growRoom, 2, none, 0, 0, 1, c_Stream_growRoom, by decide, by decide +kernel, by decide +kernel, by decide +kernel, Or.inl ⟨rfl, by decide, by decide +kernel, by decide +kernel, _, _, rfl, by decide +kernel⟩⟩
  · cases h; exact ⟨y_Frame_at, b_Frame_at, 2, (some .int), 0, 0, 1, c_Frame_at, by decide, by decide +kernel, by decide +kernel, by decide +kernel, Or.inl ⟨rfl, by decide, by decide +kernel, by decide +kernel, _, _, rfl, by decide +kernel⟩⟩
  · cases h; exact ⟨y_Frame_streamNumber, b_Frame_streamNumber, 1, (some .int), 0, 0, 0, c_Frame_streamNumber, by decide, by decide +kernel, by decide +kernel, by decide +kernel, Or.inl ⟨rfl, by decide, by decide +kernel, by decide +kernel, _, _, rfl, by decide +kernel⟩⟩
  · cases h; exact ⟨y_Stream_isClosed, b_Stream_isClosed, 1, (some .boolean), 0, 0, 0, c_Stream_isClosed, by decide, by decide +kernel, by decide +kernel, by decide +kernel, Or.inl ⟨rfl, by decide, by decide +kernel, by decide +kernel, _, _, rfl, by decide +kernel⟩⟩
  · cases h; exact ⟨y_Stream_room, b_Stream_room, 1, (some .int), 0, 0, 0, c_Stream_room, by decide, by decide +kernel, by decide +kernel, by decide +kernel, Or.inl ⟨rfl, by decide, by decide +kernel, by decide +kernel, _, _, rfl, by decide +kernel⟩⟩
  · cases h
/-- End_hearWindow -/
def sp_End_hearWindow : CSp := sR (fun q σ K _ => q.1 = 7 ∧ IV σ ∧ ∀ r σ', by8 r → IV σ' → Un [32] σ σ' → K (some (.inl r)) σ')
set_option maxHeartbeats 4000000 in
set_option maxRecDepth 100000 in
theorem c_End_hearWindow : Ctr y_End_hearWindow b_End_hearWindow 3 (some .int) 2 41 0 0 sp_End_hearWindow := by
  refine ctr_of (FT := ft_End) (GT := gt_End_hearWindow) (CT := ct_End_hearWindow) (sw := sw_End_hearWindow) (rt := 0) (pr := pr_End_hearWindow) (by decide) [] (fun _ _ _ _ _ _ _ _ _ _ _ => False) 50 ⟨fun _ => rfl, fun h => absurd h (by decide), fun h => absurd h (by decide), fun h => absurd h (by decide)⟩ dk_End_hearWindow fo_End go_End_hearWindow co_End_hearWindow (fun a k h hk => by unfold gt_End_hearWindow at h; cases h) (fun q hq h => absurd h (nt_End_hearWindow q hq)) (fun av σ K kx h => by rw [sR_len h]; decide) ?_ ?_
  · intro av σ K kx hok hSp
    obtain ⟨q0, rfl, hp⟩ := sR_inv hSp
    obtain ⟨k0, e0, i0⟩ := q0
    obtain ⟨h0, hI, h2⟩ := hp
    dsimp only at h0; subst h0
    all_goals (repeat' (first | (with_reducible assumption) | (with_reducible (apply by8_9; assumption)) | (with_reducible (apply by8_4; assumption)) | (with_reducible (apply by8_22; assumption)) | (with_reducible (apply by8_g; assumption)) | (with_reducible refine IV_upd ?_ ?_) | (with_reducible refine IV_cpy ?_ (fun _ _ _ _ => trivial)) | (refine And.intro ?_ ?_) | (intro _)))
    all_goals first | (exact h2) | (refine h2 _ ?_ ?_ <;> (repeat' (first | assumption | exact trivial | exact Un_rf | (apply by8_4; assumption) | (apply by8_9; assumption) | (apply by8_22; assumption) | (apply by8_g; assumption) | (refine by8_13 ?_) | (apply rg34_of <;> assumption) | (refine rg_max ?_ ?_) | (apply rg_34; assumption) | (refine ixr_by8 ?_ ?_) | (refine IV_upd ?_ ?_) | (refine Un_upd rfl ?_) | (refine IV_cpy ?_ (fun _ _ _ _ => trivial)) | (refine Un_cpy rfl ?_) | (apply Un_tr; rotate_left; assumption; rfl) | (refine And.intro ?_ ?_))) <;> (first | rfl | decide | exact Or.inl rfl | exact Or.inr (Or.inl rfl) | exact Or.inr (Or.inr rfl) | (simp only [nrm, strm, by8] at * <;> omega) | (simp [upd4, cpy4, nrm, strm, by8] at * <;> omega))) | (apply h2 <;> (repeat' (first | assumption | exact trivial | exact Un_rf | (apply by8_4; assumption) | (apply by8_9; assumption) | (apply by8_22; assumption) | (apply by8_g; assumption) | (refine by8_13 ?_) | (apply rg34_of <;> assumption) | (refine rg_max ?_ ?_) | (apply rg_34; assumption) | (refine ixr_by8 ?_ ?_) | (refine IV_upd ?_ ?_) | (refine Un_upd rfl ?_) | (refine IV_cpy ?_ (fun _ _ _ _ => trivial)) | (refine Un_cpy rfl ?_) | (apply Un_tr; rotate_left; assumption; rfl) | (refine And.intro ?_ ?_))) <;> (first | rfl | decide | exact Or.inl rfl | exact Or.inr (Or.inl rfl) | exact Or.inr (Or.inr rfl) | (simp only [nrm, strm, by8] at * <;> omega) | (simp [upd4, cpy4, nrm, strm, by8] at * <;> omega))) | (first | rfl | decide | exact Or.inl rfl | exact Or.inr (Or.inl rfl) | exact Or.inr (Or.inr rfl) | (simp only [nrm, strm, by8] at * <;> omega) | (simp [upd4, cpy4, nrm, strm, by8] at * <;> omega)) | ((repeat' (first | assumption | exact trivial | exact Un_rf | (apply by8_4; assumption) | (apply by8_9; assumption) | (apply by8_22; assumption) | (apply by8_g; assumption) | (refine by8_13 ?_) | (apply rg34_of <;> assumption) | (refine rg_max ?_ ?_) | (apply rg_34; assumption) | (refine ixr_by8 ?_ ?_) | (refine IV_upd ?_ ?_) | (refine Un_upd rfl ?_) | (refine IV_cpy ?_ (fun _ _ _ _ => trivial)) | (refine Un_cpy rfl ?_) | (apply Un_tr; rotate_left; assumption; rfl) | (refine And.intro ?_ ?_))) <;> (first | rfl | decide | exact Or.inl rfl | exact Or.inr (Or.inl rfl) | exact Or.inr (Or.inr rfl) | (simp only [nrm, strm, by8] at * <;> omega) | (simp [upd4, cpy4, nrm, strm, by8] at * <;> omega)))
  · intro av σ K kx n pc L st σ' nc ns _ _ h
    exact (h : False).elim
end
section
def gt_End_hearData (a : Nat) : Option Nat := match a with
  | _ => none
theorem go_End_hearData : ∀ a v, gt_End_hearData a = some v → StaOK R_End a v := by
  intro a v h
  unfold gt_End_hearData at h
  cases h
def pr_End_hearData : List Ent := [(0, 5, 0, 0, 0), (1, 39, 76, 0, 0), (4, 46, 216, 0, 0), (7, 7, 1, 0, 0), (8, 5, 0, 0, 0), (9, 39, 76, 0, 0), (12, 46, 246, 0, 0), (15, 7, 2, 0, 0), (16, 5, 0, 0, 0), (17, 3, 1, 0, 0), (18, 46, 124, 0, 0), (21, 9, 3, 0, 0), (22, 5, 3, 0, 0), (23, 46, 128, 0, 0), (26, 26, 0, 0, 31), (29, 0, 0, 1, 0), (30, 48, 0, 0, 0), (31, 3, 2, 0, 0), (32, 5, 0, 0, 0), (33, 39, 27, 0, 0), (36, 0, 0, 0, 0), (37, 43, 0, 0, 0), (38, 46, 247, 0, 0), (41, 37, 0, 0, 46), (44, 0, 0, 3, 0), (45, 48, 0, 0, 0), (46, 5, 0, 0, 0), (47, 39, 27, 0, 0), (50, 0, 0, 0, 0), (51, 43, 0, 0, 0), (52, 3, 2, 0, 0), (53, 15, 0, 0, 0), (54, 46, 169, 0, 0), (57, 5, 3, 0, 0), (58, 46, 228, 0, 0), (61, 27, 0, 0, 71), (64, 5, 0, 0, 0), (65, 3, 1, 0, 0), (66, 0, 0, 5, 0), (67, 46, 225, 0, 0), (70, 48, 0, 0, 0), (71, 3, 2, 0, 0), (72, 5, 3, 0, 0), (73, 46, 247, 0, 0), (76, 37, 0, 0, 86), (79, 5, 0, 0, 0), (80, 3, 1, 0, 0), (81, 0, 0, 3, 0), (82, 46, 225, 0, 0), (85, 48, 0, 0, 0), (86, 5, 3, 0, 0), (87, 3, 2, 0, 0), (88, 5, 0, 0, 0), (89, 39, 76, 0, 0), (92, 46, 250, 0, 0), (95, 46, 253, 0, 0), (98, 5, 0, 0, 0), (99, 39, 76, 0, 0), (102, 46, 240, 0, 0), (105, 26, 0, 0, 112), (108, 5, 3, 0, 0), (109, 46, 243, 0, 0), (112, 0, 0, 0, 0), (113, 48, 0, 0, 0)]
def sw_End_hearData : List Swt := []
theorem dk_End_hearData : ∀ q ∈ pr_End_hearData, decode b_End_hearData q.1 = .ok (dec sw_End_hearData q) ∧ okE q = true := by decide +kernel
theorem nt_End_hearData : ∀ q ∈ pr_End_hearData, ¬ q.2.1 = 55 := by decide +kernel
def ct_End_hearData (a : Nat) : Option (Nat × Nat × CSp × Nat × Nat) := match a with
  | 124 => some (2, 3, sp_End_find, 0, 0)
  | 128 => some (1, 6, sp_Stream_isIdle, 0, 0)
  | 169 => some (2, 6, sp_Stream_growDue, 0, 0)
  | 216 => some (1, 5, sp_Frame_streamNumber, 0, 0)
  | 225 => some (3, 3, sp_End_closeBy, 0, 0)
  | 228 => some (1, 6, sp_Stream_mayHear, 0, 0)
  | 240 => some (1, 5, sp_Frame_isFlagged, 0, 0)
  | 243 => some (1, 6, sp_Stream_hearLast, 0, 0)
  | 246 => some (1, 5, sp_Frame_length, 0, 0)
  | 247 => some (1, 6, sp_Stream_due, 0, 0)
  | 250 => some (1, 5, sp_Frame_sum, 0, 0)
  | 253 => some (3, 6, sp_Stream_takeData, 0, 0)
  | _ => none
theorem co_End_hearData : ∀ a v, ct_End_hearData a = some v → StcOK R_End 4 91 a v := by
  intro a v h
  unfold ct_End_hearData at h
  split at h
  · cases h; exact ⟨y_End_find, b_End_find, 2, (some (.object "FrameStreams$Stream")), 1, 20, 1, c_End_find, by decide, by decide +kernel, by decide +kernel, by decide +kernel, Or.inl ⟨rfl, by decide, by decide +kernel, by decide +kernel, _, _, rfl, by decide +kernel⟩⟩
  · cases h; exact ⟨y_Stream_isIdle, b_Stream_isIdle, 1, (some .boolean), 0, 0, 0, c_Stream_isIdle, by decide, by decide +kernel, by decide +kernel, by decide +kernel, Or.inl ⟨rfl, by decide, by decide +kernel, by decide +kernel, _, _, rfl, by decide +kernel⟩⟩
  · cases h; exact ⟨y_Stream_growDue, b_Stream_growDue, 2, none, 0, 0, 1, c_Stream_growDue, by decide, by decide +kernel, by decide +kernel, by decide +kernel, Or.inl ⟨rfl, by decide, by decide +kernel, by decide +kernel, _, _, rfl, by decide +kernel⟩⟩
  · cases h; exact ⟨y_Frame_streamNumber, b_Frame_streamNumber, 1, (some .int), 0, 0, 0, c_Frame_streamNumber, by decide, by decide +kernel, by decide +kernel, by decide +kernel, Or.inl ⟨rfl, by decide, by decide +kernel, by decide +kernel, _, _, rfl, by decide +kernel⟩⟩
  · cases h; exact ⟨y_End_closeBy, b_End_closeBy, 3, (some .int), 3, 69, 2, c_End_closeBy, by decide, by decide +kernel, by decide +kernel, by decide +kernel, Or.inl ⟨rfl, by decide, by decide +kernel, by decide +kernel, _, _, rfl, by decide +kernel⟩⟩
  · cases h; exact ⟨y_Stream_mayHear, b_Stream_mayHear, 1, (some .boolean), 0, 0, 0, c_Stream_mayHear, by decide, by decide +kernel, by decide +kernel, by decide +kernel, Or.inl ⟨rfl, by decide, by decide +kernel, by decide +kernel, _, _, rfl, by decide +kernel⟩⟩
  · cases h; exact ⟨y_Frame_isFlagged, b_Frame_isFlagged, 1, (some .boolean), 0, 0, 0, c_Frame_isFlagged, by decide, by decide +kernel, by decide +kernel, by decide +kernel, Or.inl ⟨rfl, by decide, by decide +kernel, by decide +kernel, _, _, rfl, by decide +kernel⟩⟩
  · cases h; exact ⟨y_Stream_hearLast, b_Stream_hearLast, 1, none, 0, 0, 0, c_Stream_hearLast, by decide, by decide +kernel, by decide +kernel, by decide +kernel, Or.inl ⟨rfl, by decide, by decide +kernel, by decide +kernel, _, _, rfl, by decide +kernel⟩⟩
  · cases h; exact ⟨y_Frame_length, b_Frame_length, 1, (some .int), 0, 0, 0, c_Frame_length, by decide, by decide +kernel, by decide +kernel, by decide +kernel, Or.inl ⟨rfl, by decide, by decide +kernel, by decide +kernel, _, _, rfl, by decide +kernel⟩⟩
  · cases h; exact ⟨y_Stream_due, b_Stream_due, 1, (some .int), 0, 0, 0, c_Stream_due, by decide, by decide +kernel, by decide +kernel, by decide +kernel, Or.inl ⟨rfl, by decide, by decide +kernel, by decide +kernel, _, _, rfl, by decide +kernel⟩⟩
  · cases h; exact ⟨y_Frame_sum, b_Frame_sum, 3, (some .int), 0, 0, 0, c_Frame_sum, by decide, by decide +kernel, by decide +kernel, by decide +kernel, Or.inl ⟨rfl, by decide, by decide +kernel, by decide +kernel, _, _, rfl, by decide +kernel⟩⟩
  · cases h; exact ⟨y_Stream_takeData, b_Stream_takeData, 3, none, 0, 0, 2, c_Stream_takeData, by decide, by decide +kernel, by decide +kernel, by decide +kernel, Or.inl ⟨rfl, by decide, by decide +kernel, by decide +kernel, _, _, rfl, by decide +kernel⟩⟩
  · cases h
/-- End_hearData -/
def sp_End_hearData : CSp := sR (fun q σ K _ => q.1 = 7 ∧ IV σ ∧ ∀ r σ', by8 r → IV σ' → Un [3, 4, 32] σ σ' → K (some (.inl r)) σ')
set_option maxHeartbeats 4000000 in
set_option maxRecDepth 100000 in
theorem c_End_hearData : Ctr y_End_hearData b_End_hearData 4 (some .int) 4 91 0 0 sp_End_hearData := by
  refine ctr_of (FT := ft_End) (GT := gt_End_hearData) (CT := ct_End_hearData) (sw := sw_End_hearData) (rt := 0) (pr := pr_End_hearData) (by decide) [] (fun _ _ _ _ _ _ _ _ _ _ _ => False) 80 ⟨fun _ => rfl, fun h => absurd h (by decide), fun h => absurd h (by decide), fun h => absurd h (by decide)⟩ dk_End_hearData fo_End go_End_hearData co_End_hearData (fun a k h hk => by unfold gt_End_hearData at h; cases h) (fun q hq h => absurd h (nt_End_hearData q hq)) (fun av σ K kx h => by rw [sR_len h]; decide) ?_ ?_
  · intro av σ K kx hok hSp
    obtain ⟨q0, rfl, hp⟩ := sR_inv hSp
    obtain ⟨k0, e0, i0⟩ := q0
    obtain ⟨h0, hI, h2⟩ := hp
    dsimp only at h0; subst h0
    all_goals (repeat' (first | (with_reducible assumption) | (with_reducible (apply by8_9; assumption)) | (with_reducible (apply by8_4; assumption)) | (with_reducible (apply by8_22; assumption)) | (with_reducible (apply by8_g; assumption)) | (with_reducible (apply rg34_of <;> assumption)) | (with_reducible refine rg_max ?_ ?_) | (with_reducible refine IV_upd ?_ ?_) | (with_reducible refine IV_cpy ?_ (fun _ _ _ _ => trivial)) | (refine And.intro ?_ ?_) | (intro _)))
    all_goals first | (exact h2) | (refine h2 _ ?_ ?_ <;> (repeat' (first | assumption | exact trivial | exact Un_rf | (apply by8_4; assumption) | (apply by8_9; assumption) | (apply by8_22; assumption) | (apply by8_g; assumption) | (refine by8_13 ?_) | (apply rg34_of <;> assumption) | (refine rg_max ?_ ?_) | (apply rg_34; assumption) | (refine ixr_by8 ?_ ?_) | (refine IV_upd ?_ ?_) | (refine Un_upd rfl ?_) | (refine IV_cpy ?_ (fun _ _ _ _ => trivial)) | (refine Un_cpy rfl ?_) | (apply Un_tr; rotate_left; assumption; rfl) | (refine And.intro ?_ ?_))) <;> (first | rfl | decide | exact Or.inl rfl | exact Or.inr (Or.inl rfl) | exact Or.inr (Or.inr rfl) | (simp only [nrm, strm, by8] at * <;> omega) | (simp [upd4, cpy4, nrm, strm, by8] at * <;> omega))) | (apply h2 <;> (repeat' (first | assumption | exact trivial | exact Un_rf | (apply by8_4; assumption) | (apply by8_9; assumption) | (apply by8_22; assumption) | (apply by8_g; assumption) | (refine by8_13 ?_) | (apply rg34_of <;> assumption) | (refine rg_max ?_ ?_) | (apply rg_34; assumption) | (refine ixr_by8 ?_ ?_) | (refine IV_upd ?_ ?_) | (refine Un_upd rfl ?_) | (refine IV_cpy ?_ (fun _ _ _ _ => trivial)) | (refine Un_cpy rfl ?_) | (apply Un_tr; rotate_left; assumption; rfl) | (refine And.intro ?_ ?_))) <;> (first | rfl | decide | exact Or.inl rfl | exact Or.inr (Or.inl rfl) | exact Or.inr (Or.inr rfl) | (simp only [nrm, strm, by8] at * <;> omega) | (simp [upd4, cpy4, nrm, strm, by8] at * <;> omega))) | (first | rfl | decide | exact Or.inl rfl | exact Or.inr (Or.inl rfl) | exact Or.inr (Or.inr rfl) | (simp only [nrm, strm, by8] at * <;> omega) | (simp [upd4, cpy4, nrm, strm, by8] at * <;> omega)) | ((repeat' (first | assumption | exact trivial | exact Un_rf | (apply by8_4; assumption) | (apply by8_9; assumption) | (apply by8_22; assumption) | (apply by8_g; assumption) | (refine by8_13 ?_) | (apply rg34_of <;> assumption) | (refine rg_max ?_ ?_) | (apply rg_34; assumption) | (refine ixr_by8 ?_ ?_) | (refine IV_upd ?_ ?_) | (refine Un_upd rfl ?_) | (refine IV_cpy ?_ (fun _ _ _ _ => trivial)) | (refine Un_cpy rfl ?_) | (apply Un_tr; rotate_left; assumption; rfl) | (refine And.intro ?_ ?_))) <;> (first | rfl | decide | exact Or.inl rfl | exact Or.inr (Or.inl rfl) | exact Or.inr (Or.inr rfl) | (simp only [nrm, strm, by8] at * <;> omega) | (simp [upd4, cpy4, nrm, strm, by8] at * <;> omega)))
  · intro av σ K kx n pc L st σ' nc ns _ _ h
    exact (h : False).elim
end
section
def gt_End_hearSettings (a : Nat) : Option Nat := match a with
  | 256 => some 201
  | _ => none
theorem go_End_hearSettings : ∀ a v, gt_End_hearSettings a = some v → StaOK R_End a v := by
  intro a v h
  unfold gt_End_hearSettings at h
  split at h
  · cases h; exact ⟨fun h => absurd h (by decide), fun h => absurd h (by decide), fun h => absurd h (by decide), fun _ => ⟨_, _, List.mem_of_getElem? (i := 1) rfl, by first | exact Or.inl (by decide +kernel) | exact Or.inr ⟨"FrameStreams", by decide +kernel⟩⟩⟩
  · cases h
def pr_End_hearSettings : List Ent := [(0, 5, 0, 0, 0), (1, 39, 76, 0, 0), (4, 46, 240, 0, 0), (7, 26, 0, 0, 22), (10, 5, 0, 0, 0), (11, 23, 0, 0, 0), (12, 39, 53, 0, 0), (15, 0, 0, 1, 0), (16, 12, 0, 0, 0), (17, 40, 53, 0, 0), (20, 0, 0, 0, 0), (21, 48, 0, 0, 0), (22, 5, 0, 0, 0), (23, 39, 76, 0, 0), (26, 0, 0, 0, 0), (27, 46, 209, 0, 0), (30, 7, 1, 0, 0), (31, 5, 0, 0, 0), (32, 39, 76, 0, 0), (35, 0, 0, 1, 0), (36, 46, 209, 0, 0), (39, 7, 2, 0, 0), (40, 3, 1, 0, 0), (41, 5, 0, 0, 0), (42, 39, 43, 0, 0), (45, 44, 0, 0, 0), (46, 35, 0, 0, 58), (49, 3, 2, 0, 0), (50, 45, 256, 0, 0), (53, 3, 1, 0, 0), (54, 41, 0, 0, 0), (55, 37, 0, 0, 60), (58, 0, 0, 1, 0), (59, 48, 0, 0, 0), (60, 3, 1, 0, 0), (61, 0, 0, 1, 0), (62, 33, 0, 0, 77), (65, 5, 0, 0, 0), (66, 3, 2, 0, 0), (67, 5, 0, 0, 0), (68, 39, 43, 0, 0), (71, 3, 1, 0, 0), (72, 41, 0, 0, 0), (73, 13, 0, 0, 0), (74, 46, 259, 0, 0), (77, 5, 0, 0, 0), (78, 39, 43, 0, 0), (81, 3, 1, 0, 0), (82, 3, 2, 0, 0), (83, 42, 0, 0, 0), (84, 5, 0, 0, 0), (85, 0, 0, 0, 0), (86, 46, 121, 0, 0), (89, 27, 0, 0, 95), (92, 1, 0, 6, 0), (94, 48, 0, 0, 0), (95, 5, 0, 0, 0), (96, 39, 70, 0, 0), (99, 0, 0, 0, 0), (100, 0, 0, 4, 0), (101, 0, 0, 1, 0), (102, 0, 0, 0, 0), (103, 46, 131, 0, 0), (106, 0, 0, 0, 0), (107, 48, 0, 0, 0)]
def sw_End_hearSettings : List Swt := []
theorem dk_End_hearSettings : ∀ q ∈ pr_End_hearSettings, decode b_End_hearSettings q.1 = .ok (dec sw_End_hearSettings q) ∧ okE q = true := by decide +kernel
theorem nt_End_hearSettings : ∀ q ∈ pr_End_hearSettings, ¬ q.2.1 = 55 := by decide +kernel
def ct_End_hearSettings (a : Nat) : Option (Nat × Nat × CSp × Nat × Nat) := match a with
  | 121 => some (2, 3, sp_End_maySend, 0, 0)
  | 131 => some (5, 8, sp_Wire_putHead, 0, 0)
  | 209 => some (2, 5, sp_Frame_at, 0, 0)
  | 240 => some (1, 5, sp_Frame_isFlagged, 0, 0)
  | 259 => some (2, 3, sp_End_growRooms, 0, 0)
  | _ => none
theorem co_End_hearSettings : ∀ a v, ct_End_hearSettings a = some v → StcOK R_End 2 45 a v := by
  intro a v h
  unfold ct_End_hearSettings at h
  split at h
  · cases h; exact ⟨y_End_maySend, b_End_maySend, 2, (some .boolean), 1, 21, 1, c_End_maySend, by decide, by decide +kernel, by decide +kernel, by decide +kernel, Or.inl ⟨rfl, by decide, by decide +kernel, by decide +kernel, _, _, rfl, by decide +kernel⟩⟩
  · cases h; exact ⟨y_Wire_putHead, b_Wire_putHead, 5, none, 1, 21, 4, c_Wire_putHead, by decide, by decide +kernel, by decide +kernel, by decide +kernel, Or.inl ⟨rfl, by decide, by decide +kernel, by decide +kernel, _, _, rfl, by decide +kernel⟩⟩
  · cases h; exact ⟨y_Frame_at, b_Frame_at, 2, (some .int), 0, 0, 1, c_Frame_at, by decide, by decide +kernel, by decide +kernel, by decide +kernel, Or.inl ⟨rfl, by decide, by decide +kernel, by decide +kernel, _, _, rfl, by decide +kernel⟩⟩
  · cases h; exact ⟨y_Frame_isFlagged, b_Frame_isFlagged, 1, (some .boolean), 0, 0, 0, c_Frame_isFlagged, by decide, by decide +kernel, by decide +kernel, by decide +kernel, Or.inl ⟨rfl, by decide, by decide +kernel, by decide +kernel, _, _, rfl, by decide +kernel⟩⟩
  · cases h; exact ⟨y_End_growRooms, b_End_growRooms, 3, none, 1, 21, 1, c_End_growRooms, by decide, by decide +kernel, by decide +kernel, by decide +kernel, Or.inl ⟨rfl, by decide, by decide +kernel, by decide +kernel, _, _, rfl, by decide +kernel⟩⟩
  · cases h
/-- End_hearSettings -/
def sp_End_hearSettings : CSp := sR (fun q σ K _ => q.1 = 7 ∧ IV σ ∧ ∀ r σ', by8 r → IV σ' → Un [3, 4, 7, 32, 34] σ σ' → K (some (.inl r)) σ')
set_option maxHeartbeats 4000000 in
set_option maxRecDepth 100000 in
theorem c_End_hearSettings : Ctr y_End_hearSettings b_End_hearSettings 3 (some .int) 2 45 0 0 sp_End_hearSettings := by
  refine ctr_of (FT := ft_End) (GT := gt_End_hearSettings) (CT := ct_End_hearSettings) (sw := sw_End_hearSettings) (rt := 0) (pr := pr_End_hearSettings) (by decide) [] (fun _ _ _ _ _ _ _ _ _ _ _ => False) 80 ⟨fun _ => rfl, fun h => absurd h (by decide), fun h => absurd h (by decide), fun h => absurd h (by decide)⟩ dk_End_hearSettings fo_End go_End_hearSettings co_End_hearSettings (fun a k h hk => by unfold gt_End_hearSettings at h; split at h <;> first | exact ⟨by decide, by decide⟩ | (cases h; done) | (cases h; exact absurd hk (by decide))) (fun q hq h => absurd h (nt_End_hearSettings q hq)) (fun av σ K kx h => by rw [sR_len h]; decide) ?_ ?_
  · intro av σ K kx hok hSp
    obtain ⟨q0, rfl, hp⟩ := sR_inv hSp
    obtain ⟨k0, e0, i0⟩ := q0
    obtain ⟨h0, hI, h2⟩ := hp
    dsimp only at h0; subst h0
    all_goals (repeat' (first | (with_reducible assumption) | (with_reducible (apply by8_9; assumption)) | (with_reducible (apply by8_4; assumption)) | (with_reducible (apply by8_22; assumption)) | (with_reducible (apply by8_g; assumption)) | (with_reducible (apply rg34_of <;> assumption)) | (with_reducible refine rg_max ?_ ?_) | (with_reducible refine IV_upd ?_ ?_) | (with_reducible refine IV_cpy ?_ (fun _ _ _ _ => trivial)) | (refine And.intro ?_ ?_) | (intro _)))
    all_goals first | (exact h2) | (refine h2 _ ?_ ?_ <;> (repeat' (first | assumption | exact trivial | exact Un_rf | (apply by8_4; assumption) | (apply by8_9; assumption) | (apply by8_22; assumption) | (apply by8_g; assumption) | (refine by8_13 ?_) | (apply rg34_of <;> assumption) | (refine rg_max ?_ ?_) | (apply rg_34; assumption) | (refine ixr_by8 ?_ ?_) | (refine IV_upd ?_ ?_) | (refine Un_upd rfl ?_) | (refine IV_cpy ?_ (fun _ _ _ _ => trivial)) | (refine Un_cpy rfl ?_) | (apply Un_tr; rotate_left; assumption; rfl) | (refine And.intro ?_ ?_))) <;> (first | rfl | decide | exact Or.inl rfl | exact Or.inr (Or.inl rfl) | exact Or.inr (Or.inr rfl) | (simp only [nrm, strm, by8] at * <;> omega) | (simp [upd4, cpy4, nrm, strm, by8] at * <;> omega))) | (apply h2 <;> (repeat' (first | assumption | exact trivial | exact Un_rf | (apply by8_4; assumption) | (apply by8_9; assumption) | (apply by8_22; assumption) | (apply by8_g; assumption) | (refine by8_13 ?_) | (apply rg34_of <;> assumption) | (refine rg_max ?_ ?_) | (apply rg_34; assumption) | (refine ixr_by8 ?_ ?_) | (refine IV_upd ?_ ?_) | (refine Un_upd rfl ?_) | (refine IV_cpy ?_ (fun _ _ _ _ => trivial)) | (refine Un_cpy rfl ?_) | (apply Un_tr; rotate_left; assumption; rfl) | (refine And.intro ?_ ?_))) <;> (first | rfl | decide | exact Or.inl rfl | exact Or.inr (Or.inl rfl) | exact Or.inr (Or.inr rfl) | (simp only [nrm, strm, by8] at * <;> omega) | (simp [upd4, cpy4, nrm, strm, by8] at * <;> omega))) | (first | rfl | decide | exact Or.inl rfl | exact Or.inr (Or.inl rfl) | exact Or.inr (Or.inr rfl) | (simp only [nrm, strm, by8] at * <;> omega) | (simp [upd4, cpy4, nrm, strm, by8] at * <;> omega)) | ((repeat' (first | assumption | exact trivial | exact Un_rf | (apply by8_4; assumption) | (apply by8_9; assumption) | (apply by8_22; assumption) | (apply by8_g; assumption) | (refine by8_13 ?_) | (apply rg34_of <;> assumption) | (refine rg_max ?_ ?_) | (apply rg_34; assumption) | (refine ixr_by8 ?_ ?_) | (refine IV_upd ?_ ?_) | (refine Un_upd rfl ?_) | (refine IV_cpy ?_ (fun _ _ _ _ => trivial)) | (refine Un_cpy rfl ?_) | (apply Un_tr; rotate_left; assumption; rfl) | (refine And.intro ?_ ?_))) <;> (first | rfl | decide | exact Or.inl rfl | exact Or.inr (Or.inl rfl) | exact Or.inr (Or.inr rfl) | (simp only [nrm, strm, by8] at * <;> omega) | (simp [upd4, cpy4, nrm, strm, by8] at * <;> omega)))
  · intro av σ K kx n pc L st σ' nc ns _ _ h
    exact (h : False).elim
end
section
def gt_End_sendHeaders (a : Nat) : Option Nat := match a with
  | _ => none
theorem go_End_sendHeaders : ∀ a v, gt_End_sendHeaders a = some v → StaOK R_End a v := by
  intro a v h
  unfold gt_End_sendHeaders at h
  cases h
def pr_End_sendHeaders : List Ent := [(0, 5, 0, 0, 0), (1, 3, 1, 0, 0), (2, 46, 124, 0, 0), (5, 9, 3, 0, 0), (6, 5, 3, 0, 0), (7, 46, 128, 0, 0), (10, 26, 0, 0, 39), (13, 5, 3, 0, 0), (14, 5, 0, 0, 0), (15, 39, 43, 0, 0), (18, 0, 0, 1, 0), (19, 41, 0, 0, 0), (20, 5, 0, 0, 0), (21, 39, 40, 0, 0), (24, 0, 0, 1, 0), (25, 41, 0, 0, 0), (26, 46, 90, 0, 0), (29, 5, 0, 0, 0), (30, 23, 0, 0, 0), (31, 39, 46, 0, 0), (34, 0, 0, 1, 0), (35, 12, 0, 0, 0), (36, 40, 46, 0, 0), (39, 5, 0, 0, 0), (40, 39, 70, 0, 0), (43, 5, 0, 0, 0), (44, 39, 21, 0, 0), (47, 46, 118, 0, 0), (50, 0, 0, 1, 0), (51, 3, 2, 0, 0), (52, 26, 0, 0, 59), (55, 0, 0, 1, 0), (56, 38, 0, 0, 60), (59, 0, 0, 0, 0), (60, 3, 1, 0, 0), (61, 46, 131, 0, 0), (64, 0, 0, 0, 0), (65, 8, 4, 0, 0), (67, 4, 4, 0, 0), (69, 5, 0, 0, 0), (70, 39, 21, 0, 0), (73, 46, 118, 0, 0), (76, 35, 0, 0, 101), (79, 5, 0, 0, 0), (80, 39, 70, 0, 0), (83, 5, 0, 0, 0), (84, 39, 21, 0, 0), (87, 4, 4, 0, 0), (89, 46, 135, 0, 0), (92, 46, 139, 0, 0), (95, 11, 4, 1, 0), (98, 38, 0, 0, 67), (101, 5, 0, 0, 0), (102, 39, 21, 0, 0), (105, 46, 143, 0, 0), (108, 5, 0, 0, 0), (109, 39, 12, 0, 0), (112, 46, 146, 0, 0), (115, 3, 2, 0, 0), (116, 26, 0, 0, 123), (119, 5, 3, 0, 0), (120, 46, 149, 0, 0), (123, 49, 0, 0, 0)]
def sw_End_sendHeaders : List Swt := []
theorem dk_End_sendHeaders : ∀ q ∈ pr_End_sendHeaders, decode b_End_sendHeaders q.1 = .ok (dec sw_End_sendHeaders q) ∧ okE q = true := by decide +kernel
theorem nt_End_sendHeaders : ∀ q ∈ pr_End_sendHeaders, ¬ q.2.1 = 55 := by decide +kernel
def ct_End_sendHeaders (a : Nat) : Option (Nat × Nat × CSp × Nat × Nat) := match a with
  | 90 => some (3, 6, sp_Stream_open, 0, 0)
  | 118 => some (1, 2, sp_BlockWriter_length, 0, 0)
  | 124 => some (2, 3, sp_End_find, 0, 0)
  | 128 => some (1, 6, sp_Stream_isIdle, 0, 0)
  | 131 => some (5, 8, sp_Wire_putHead, 0, 0)
  | 135 => some (2, 2, sp_BlockWriter_at, 0, 0)
  | 139 => some (2, 8, sp_Wire_put, 0, 0)
  | 143 => some (1, 2, sp_BlockWriter_keep, 0, 0)
  | 146 => some (1, 4, sp_Fields_clear, 0, 0)
  | 149 => some (1, 6, sp_Stream_sendLast, 0, 0)
  | _ => none
theorem co_End_sendHeaders : ∀ a v, ct_End_sendHeaders a = some v → StcOK R_End 3 67 a v := by
  intro a v h
  unfold ct_End_sendHeaders at h
  split at h
  · cases h; exact ⟨y_Stream_open, b_Stream_open, 3, none, 0, 0, 2, c_Stream_open, by decide, by decide +kernel, by decide +kernel, by decide +kernel, Or.inl ⟨rfl, by decide, by decide +kernel, by decide +kernel, _, _, rfl, by decide +kernel⟩⟩
  · cases h; exact ⟨y_BlockWriter_length, b_BlockWriter_length, 1, (some .int), 0, 0, 0, c_BlockWriter_length, by decide, by decide +kernel, by decide +kernel, by decide +kernel, Or.inl ⟨rfl, by decide, by decide +kernel, by decide +kernel, _, _, rfl, by decide +kernel⟩⟩
  · cases h; exact ⟨y_End_find, b_End_find, 2, (some (.object "FrameStreams$Stream")), 1, 20, 1, c_End_find, by decide, by decide +kernel, by decide +kernel, by decide +kernel, Or.inl ⟨rfl, by decide, by decide +kernel, by decide +kernel, _, _, rfl, by decide +kernel⟩⟩
  · cases h; exact ⟨y_Stream_isIdle, b_Stream_isIdle, 1, (some .boolean), 0, 0, 0, c_Stream_isIdle, by decide, by decide +kernel, by decide +kernel, by decide +kernel, Or.inl ⟨rfl, by decide, by decide +kernel, by decide +kernel, _, _, rfl, by decide +kernel⟩⟩
  · cases h; exact ⟨y_Wire_putHead, b_Wire_putHead, 5, none, 1, 21, 4, c_Wire_putHead, by decide, by decide +kernel, by decide +kernel, by decide +kernel, Or.inl ⟨rfl, by decide, by decide +kernel, by decide +kernel, _, _, rfl, by decide +kernel⟩⟩
  · cases h; exact ⟨y_BlockWriter_at, b_BlockWriter_at, 2, (some .int), 0, 0, 1, c_BlockWriter_at, by decide, by decide +kernel, by decide +kernel, by decide +kernel, Or.inl ⟨rfl, by decide, by decide +kernel, by decide +kernel, _, _, rfl, by decide +kernel⟩⟩
  · cases h; exact ⟨y_Wire_put, b_Wire_put, 2, none, 0, 0, 1, c_Wire_put, by decide, by decide +kernel, by decide +kernel, by decide +kernel, Or.inl ⟨rfl, by decide, by decide +kernel, by decide +kernel, _, _, rfl, by decide +kernel⟩⟩
  · cases h; exact ⟨y_BlockWriter_keep, b_BlockWriter_keep, 1, none, 2, 47, 0, c_BlockWriter_keep, by decide, by decide +kernel, by decide +kernel, by decide +kernel, Or.inl ⟨rfl, by decide, by decide +kernel, by decide +kernel, _, _, rfl, by decide +kernel⟩⟩
  · cases h; exact ⟨y_Fields_clear, b_Fields_clear, 1, none, 0, 0, 0, c_Fields_clear, by decide, by decide +kernel, by decide +kernel, by decide +kernel, Or.inl ⟨rfl, by decide, by decide +kernel, by decide +kernel, _, _, rfl, by decide +kernel⟩⟩
  · cases h; exact ⟨y_Stream_sendLast, b_Stream_sendLast, 1, none, 0, 0, 0, c_Stream_sendLast, by decide, by decide +kernel, by decide +kernel, by decide +kernel, Or.inl ⟨rfl, by decide, by decide +kernel, by decide +kernel, _, _, rfl, by decide +kernel⟩⟩
  · cases h
/-- End_sendHeaders -/
def sp_End_sendHeaders : CSp := sRII (fun q x0 x1 σ K _ => q.1 = 7 ∧ IV σ ∧ by8 x0 ∧ (strm x0 → nrm (σ 32 q.2.1 (fx x0) 1) = 0 → σ 7 q.2.1 q.2.2 10 ≤ 6) ∧ (¬ strm x0 → nrm (σ 32 q.2.1 0 1) = 0 → σ 7 q.2.1 q.2.2 10 ≤ 6) ∧ ∀ σ', IV σ' → Un [3, 4, 7, 10, 14, 15, 16, 17, 32] σ σ' → K none σ')
set_option maxHeartbeats 4000000 in
set_option maxRecDepth 100000 in
theorem c_End_sendHeaders : Ctr y_End_sendHeaders b_End_sendHeaders 5 none 3 67 0 0 sp_End_sendHeaders := by
  refine ctr_of (FT := ft_End) (GT := gt_End_sendHeaders) (CT := ct_End_sendHeaders) (sw := sw_End_sendHeaders) (rt := 2) (pr := pr_End_sendHeaders) (by decide) [67] (fun av σ _ _ n pc L st σ' nc ns => ∃ e i x y s j, av = [.inr (7, e, i), .inl x, .inl y] ∧ pc = 67 ∧ L = [some (.inr (7, e, i)), some (.inl x), some (.inl y), some (.inr (32, e, s)), some (.inl j)] ∧ st = [] ∧ nc = 0 ∧ ns = 0 ∧ 0 ≤ j ∧ j ≤ 76 ∧ n = (76 - j).toNat ∧ IV σ' ∧ Un [3, 4, 7, 10, 14, 15, 16, 17, 32] σ σ') 80 ⟨fun h => absurd h (by decide), fun h => absurd h (by decide), fun _ => rfl, fun h => absurd h (by decide)⟩ dk_End_sendHeaders fo_End go_End_sendHeaders co_End_sendHeaders (fun a k h hk => by unfold gt_End_sendHeaders at h; cases h) (fun q hq h => absurd h (nt_End_sendHeaders q hq)) (fun av σ K kx h => by rw [sRII_len h]; decide) ?_ ?_
  · intro av σ K kx hok hSp
    obtain ⟨q0, x0, x1, rfl, hp⟩ := sRII_inv hSp
    obtain ⟨k0, e0, i0⟩ := q0
    obtain ⟨h0, hI, h2, h3, h4, hf⟩ := hp
    dsimp only at h0 h3 h4; subst h0
    all_goals (repeat' (first | (with_reducible assumption) | (with_reducible (apply by8_9; assumption)) | (with_reducible (apply by8_4; assumption)) | (with_reducible (apply by8_22; assumption)) | (with_reducible (apply by8_g; assumption)) | (with_reducible (apply rg34_of <;> assumption)) | (with_reducible refine rg_max ?_ ?_) | (with_reducible refine by8_13 ?_) | ((with_reducible refine op_rg (σ := σ) ?_ ?_ ?_); assumption; assumption; first | exact h3 (by assumption) (by assumption) | exact h4 (by assumption) (by assumption)) | (with_reducible refine IV_upd ?_ ?_) | (with_reducible refine IV_cpy ?_ (fun _ _ _ _ => trivial)) | (refine And.intro ?_ ?_) | (intro _)))
    all_goals first | (exact op_rg (by assumption) (by assumption) (h3 (by assumption) (by assumption))) | (exact op_rg (by assumption) (by assumption) (h4 (by assumption) (by assumption))) | (apply hf <;> (repeat' (first | assumption | exact trivial | exact Un_rf | (apply by8_4; assumption) | (apply by8_9; assumption) | (apply by8_22; assumption) | (apply by8_g; assumption) | (refine by8_13 ?_) | (apply rg34_of <;> assumption) | (refine rg_max ?_ ?_) | (apply rg_34; assumption) | (refine ixr_by8 ?_ ?_) | (refine IV_upd ?_ ?_) | (refine Un_upd rfl ?_) | (refine IV_cpy ?_ (fun _ _ _ _ => trivial)) | (refine Un_cpy rfl ?_) | (apply Un_tr; rotate_left; assumption; rfl) | (refine And.intro ?_ ?_))) <;> (first | rfl | decide | exact Or.inl rfl | exact Or.inr (Or.inl rfl) | exact Or.inr (Or.inr rfl) | (simp only [nrm, strm, by8] at * <;> omega) | (simp [upd4, cpy4, nrm, strm, by8] at * <;> omega))) | (refine ⟨((76 : Int) - (0)).toNat, e0, i0, x0, x1, _, 0, rfl, rfl, rfl, rfl, rfl, rfl, ?_, ?_, rfl, ?_, ?_⟩ <;> (repeat' (first | assumption | exact trivial | exact Un_rf | (apply by8_4; assumption) | (apply by8_9; assumption) | (apply by8_22; assumption) | (apply by8_g; assumption) | (refine by8_13 ?_) | (apply rg34_of <;> assumption) | (refine rg_max ?_ ?_) | (apply rg_34; assumption) | (refine ixr_by8 ?_ ?_) | (refine IV_upd ?_ ?_) | (refine Un_upd rfl ?_) | (refine IV_cpy ?_ (fun _ _ _ _ => trivial)) | (refine Un_cpy rfl ?_) | (apply Un_tr; rotate_left; assumption; rfl) | (refine And.intro ?_ ?_))) <;> (first | rfl | decide | exact Or.inl rfl | exact Or.inr (Or.inl rfl) | exact Or.inr (Or.inr rfl) | (simp only [nrm, strm, by8] at * <;> omega) | (simp [upd4, cpy4, nrm, strm, by8] at * <;> omega))) | (first | rfl | decide | exact Or.inl rfl | exact Or.inr (Or.inl rfl) | exact Or.inr (Or.inr rfl) | (simp only [nrm, strm, by8] at * <;> omega) | (simp [upd4, cpy4, nrm, strm, by8] at * <;> omega)) | ((repeat' (first | assumption | exact trivial | exact Un_rf | (apply by8_4; assumption) | (apply by8_9; assumption) | (apply by8_22; assumption) | (apply by8_g; assumption) | (refine by8_13 ?_) | (apply rg34_of <;> assumption) | (refine rg_max ?_ ?_) | (apply rg_34; assumption) | (refine ixr_by8 ?_ ?_) | (refine IV_upd ?_ ?_) | (refine Un_upd rfl ?_) | (refine IV_cpy ?_ (fun _ _ _ _ => trivial)) | (refine Un_cpy rfl ?_) | (apply Un_tr; rotate_left; assumption; rfl) | (refine And.intro ?_ ?_))) <;> (first | rfl | decide | exact Or.inl rfl | exact Or.inr (Or.inl rfl) | exact Or.inr (Or.inr rfl) | (simp only [nrm, strm, by8] at * <;> omega) | (simp [upd4, cpy4, nrm, strm, by8] at * <;> omega)))
  · intro av σ K kx n pc L st σ' nc ns hok hSp hJ
    obtain ⟨e, i, x, y, s, j, rfl, rfl, rfl, rfl, rfl, rfl, c0, c1, hn, hI, hU⟩ := hJ
    obtain ⟨-, -, -, -, -, hf⟩ : (7 : Nat) = 7 ∧ IV σ ∧ by8 x ∧ (strm x → nrm (σ 32 e (fx x) 1) = 0 → σ 7 e i 10 ≤ 6) ∧ (¬ strm x → nrm (σ 32 e 0 1) = 0 → σ 7 e i 10 ≤ 6) ∧ ∀ σ', IV σ' → Un [3, 4, 7, 10, 14, 15, 16, 17, 32] σ σ' → K none σ' := hSp
    have b3 : 0 ≤ σ' 13 (tgt (13, 0) e i 5).2.1 (tgt (13, 0) e i 5).2.2 3 ∧ σ' 13 (tgt (13, 0) e i 5).2.1 (tgt (13, 0) e i 5).2.2 3 ≤ 76 := hI 13 e i 3
    all_goals (repeat' (first | (with_reducible assumption) | (with_reducible (apply by8_9; assumption)) | (with_reducible (apply by8_4; assumption)) | (with_reducible (apply by8_22; assumption)) | (with_reducible (apply by8_g; assumption)) | (with_reducible (apply rg34_of <;> assumption)) | (with_reducible refine rg_max ?_ ?_) | (with_reducible refine by8_13 ?_) | (with_reducible refine IV_upd ?_ ?_) | (with_reducible refine IV_cpy ?_ (fun _ _ _ _ => trivial)) | (refine And.intro ?_ ?_) | (intro _)))
    all_goals first | (exact op_rg (by assumption) (by assumption) (h3 (by assumption) (by assumption))) | (exact op_rg (by assumption) (by assumption) (h4 (by assumption) (by assumption))) | (apply hf <;> (repeat' (first | assumption | exact trivial | exact Un_rf | (apply by8_4; assumption) | (apply by8_9; assumption) | (apply by8_22; assumption) | (apply by8_g; assumption) | (refine by8_13 ?_) | (apply rg34_of <;> assumption) | (refine rg_max ?_ ?_) | (apply rg_34; assumption) | (refine ixr_by8 ?_ ?_) | (refine IV_upd ?_ ?_) | (refine Un_upd rfl ?_) | (refine IV_cpy ?_ (fun _ _ _ _ => trivial)) | (refine Un_cpy rfl ?_) | (apply Un_tr; rotate_left; assumption; rfl) | (refine And.intro ?_ ?_))) <;> (first | rfl | decide | exact Or.inl rfl | exact Or.inr (Or.inl rfl) | exact Or.inr (Or.inr rfl) | (simp only [nrm, strm, by8] at * <;> omega) | (simp [upd4, cpy4, nrm, strm, by8] at * <;> omega))) | (refine ⟨((76 : Int) - (j + 1)).toNat, ?_, e, i, x, y, s, j + 1, rfl, rfl, rfl, rfl, rfl, rfl, ?_, ?_, rfl, ?_, ?_⟩ <;> (repeat' (first | assumption | exact trivial | exact Un_rf | (apply by8_4; assumption) | (apply by8_9; assumption) | (apply by8_22; assumption) | (apply by8_g; assumption) | (refine by8_13 ?_) | (apply rg34_of <;> assumption) | (refine rg_max ?_ ?_) | (apply rg_34; assumption) | (refine ixr_by8 ?_ ?_) | (refine IV_upd ?_ ?_) | (refine Un_upd rfl ?_) | (refine IV_cpy ?_ (fun _ _ _ _ => trivial)) | (refine Un_cpy rfl ?_) | (apply Un_tr; rotate_left; assumption; rfl) | (refine And.intro ?_ ?_))) <;> (first | rfl | decide | exact Or.inl rfl | exact Or.inr (Or.inl rfl) | exact Or.inr (Or.inr rfl) | (simp only [nrm, strm, by8] at * <;> omega) | (simp [upd4, cpy4, nrm, strm, by8] at * <;> omega))) | (first | rfl | decide | exact Or.inl rfl | exact Or.inr (Or.inl rfl) | exact Or.inr (Or.inr rfl) | (simp only [nrm, strm, by8] at * <;> omega) | (simp [upd4, cpy4, nrm, strm, by8] at * <;> omega)) | ((repeat' (first | assumption | exact trivial | exact Un_rf | (apply by8_4; assumption) | (apply by8_9; assumption) | (apply by8_22; assumption) | (apply by8_g; assumption) | (refine by8_13 ?_) | (apply rg34_of <;> assumption) | (refine rg_max ?_ ?_) | (apply rg_34; assumption) | (refine ixr_by8 ?_ ?_) | (refine IV_upd ?_ ?_) | (refine Un_upd rfl ?_) | (refine IV_cpy ?_ (fun _ _ _ _ => trivial)) | (refine Un_cpy rfl ?_) | (apply Un_tr; rotate_left; assumption; rfl) | (refine And.intro ?_ ?_))) <;> (first | rfl | decide | exact Or.inl rfl | exact Or.inr (Or.inl rfl) | exact Or.inr (Or.inr rfl) | (simp only [nrm, strm, by8] at * <;> omega) | (simp [upd4, cpy4, nrm, strm, by8] at * <;> omega)))
def gt_End_sendData (a : Nat) : Option Nat := match a with
  | _ => none
theorem go_End_sendData : ∀ a v, gt_End_sendData a = some v → StaOK R_End a v := by
  intro a v h
  unfold gt_End_sendData at h
  cases h
def pr_End_sendData : List Ent := [(0, 5, 0, 0, 0), (1, 3, 1, 0, 0), (2, 46, 124, 0, 0), (5, 10, 5, 0, 0), (7, 6, 5, 0, 0), (9, 3, 2, 0, 0), (10, 15, 0, 0, 0), (11, 46, 152, 0, 0), (14, 5, 0, 0, 0), (15, 39, 27, 0, 0), (18, 0, 0, 0, 0), (19, 43, 0, 0, 0), (20, 3, 2, 0, 0), (21, 15, 0, 0, 0), (22, 46, 152, 0, 0), (25, 5, 0, 0, 0), (26, 39, 70, 0, 0), (29, 3, 2, 0, 0), (30, 0, 0, 0, 0), (31, 4, 4, 0, 0), (33, 26, 0, 0, 40), (36, 0, 0, 1, 0), (37, 38, 0, 0, 41), (40, 0, 0, 0, 0), (41, 3, 1, 0, 0), (42, 46, 131, 0, 0), (45, 0, 0, 0, 0), (46, 8, 6, 0, 0), (48, 4, 6, 0, 0), (50, 3, 2, 0, 0), (51, 35, 0, 0, 68), (54, 5, 0, 0, 0), (55, 39, 70, 0, 0), (58, 3, 3, 0, 0), (59, 46, 139, 0, 0), (62, 11, 6, 1, 0), (65, 38, 0, 0, 48), (68, 4, 4, 0, 0), (70, 26, 0, 0, 78), (73, 6, 5, 0, 0), (75, 46, 149, 0, 0), (78, 49, 0, 0, 0)]
def sw_End_sendData : List Swt := []
theorem dk_End_sendData : ∀ q ∈ pr_End_sendData, decode b_End_sendData q.1 = .ok (dec sw_End_sendData q) ∧ okE q = true := by decide +kernel
theorem nt_End_sendData : ∀ q ∈ pr_End_sendData, ¬ q.2.1 = 55 := by decide +kernel
def ct_End_sendData (a : Nat) : Option (Nat × Nat × CSp × Nat × Nat) := match a with
  | 124 => some (2, 3, sp_End_find, 0, 0)
  | 131 => some (5, 8, sp_Wire_putHead, 0, 0)
  | 139 => some (2, 8, sp_Wire_put, 0, 0)
  | 149 => some (1, 6, sp_Stream_sendLast, 0, 0)
  | 152 => some (2, 6, sp_Stream_growRoom, 0, 0)
  | _ => none
theorem co_End_sendData : ∀ a v, ct_End_sendData a = some v → StcOK R_End 2 45 a v := by
  intro a v h
  unfold ct_End_sendData at h
  split at h
  · cases h; exact ⟨y_End_find, b_End_find, 2, (some (.object "FrameStreams$Stream")), 1, 20, 1, c_End_find, by decide, by decide +kernel, by decide +kernel, by decide +kernel, Or.inl ⟨rfl, by decide, by decide +kernel, by decide +kernel, _, _, rfl, by decide +kernel⟩⟩
  · cases h; exact ⟨y_Wire_putHead, b_Wire_putHead, 5, none, 1, 21, 4, c_Wire_putHead, by decide, by decide +kernel, by decide +kernel, by decide +kernel, Or.inl ⟨rfl, by decide, by decide +kernel, by decide +kernel, _, _, rfl, by decide +kernel⟩⟩
  · cases h; exact ⟨y_Wire_put, b_Wire_put, 2, none, 0, 0, 1, c_Wire_put, by decide, by decide +kernel, by decide +kernel, by decide +kernel, Or.inl ⟨rfl, by decide, by decide +kernel, by decide +kernel, _, _, rfl, by decide +kernel⟩⟩
  · cases h; exact ⟨y_Stream_sendLast, b_Stream_sendLast, 1, none, 0, 0, 0, c_Stream_sendLast, by decide, by decide +kernel, by decide +kernel, by decide +kernel, Or.inl ⟨rfl, by decide, by decide +kernel, by decide +kernel, _, _, rfl, by decide +kernel⟩⟩
  · cases h; exact ⟨y_Stream_growRoom, b_Stream_growRoom, 2, none, 0, 0, 1, c_Stream_growRoom, by decide, by decide +kernel, by decide +kernel, by decide +kernel, Or.inl ⟨rfl, by decide, by decide +kernel, by decide +kernel, _, _, rfl, by decide +kernel⟩⟩
  · cases h
/-- End_sendData -/
def sp_End_sendData : CSp := sRIIII (fun q x0 x1 x2 x3 σ K _ => q.1 = 7 ∧ IV σ ∧ by8 x0 ∧ by8 x1 ∧ by8 x2 ∧ ∀ σ', IV σ' → Un [3, 4, 32] σ σ' → K none σ')
set_option maxHeartbeats 4000000 in
set_option maxRecDepth 100000 in
theorem c_End_sendData : Ctr y_End_sendData b_End_sendData 7 none 2 45 0 0 sp_End_sendData := by
  refine ctr_of (FT := ft_End) (GT := gt_End_sendData) (CT := ct_End_sendData) (sw := sw_End_sendData) (rt := 2) (pr := pr_End_sendData) (by decide) [48] (fun av σ _ _ n pc L st σ' nc ns => ∃ e i x y z w s j, av = [.inr (7, e, i), .inl x, .inl y, .inl z, .inl w] ∧ pc = 48 ∧ L = [some (.inr (7, e, i)), some (.inl x), some (.inl y), some (.inl z), some (.inl w), some (.inr (32, e, s)), some (.inl j)] ∧ st = [] ∧ nc = 0 ∧ ns = 0 ∧ by8 y ∧ by8 z ∧ 0 ≤ j ∧ j ≤ 255 ∧ n = (255 - j).toNat ∧ IV σ' ∧ Un [3, 4, 32] σ σ') 60 ⟨fun h => absurd h (by decide), fun h => absurd h (by decide), fun _ => rfl, fun h => absurd h (by decide)⟩ dk_End_sendData fo_End go_End_sendData co_End_sendData (fun a k h hk => by unfold gt_End_sendData at h; cases h) (fun q hq h => absurd h (nt_End_sendData q hq)) (fun av σ K kx h => by rw [sRIIII_len h]; decide) ?_ ?_
  · intro av σ K kx hok hSp
    obtain ⟨q0, x0, x1, x2, x3, rfl, hp⟩ := sRIIII_inv hSp
    obtain ⟨k0, e0, i0⟩ := q0
    obtain ⟨h0, hI, h2, h3, h4, hf⟩ := hp
    dsimp only at h0; subst h0
    all_goals (repeat' (first | (with_reducible assumption) | (with_reducible (apply by8_9; assumption)) | (with_reducible (apply by8_4; assumption)) | (with_reducible (apply by8_22; assumption)) | (with_reducible (apply by8_g; assumption)) | (with_reducible (apply rg34_of <;> assumption)) | (with_reducible refine rg_max ?_ ?_) | (with_reducible refine IV_upd ?_ ?_) | (with_reducible refine IV_cpy ?_ (fun _ _ _ _ => trivial)) | (refine And.intro ?_ ?_) | (intro _)))
    all_goals first | (apply hf <;> (repeat' (first | assumption | exact trivial | exact Un_rf | (apply by8_4; assumption) | (apply by8_9; assumption) | (apply by8_22; assumption) | (apply by8_g; assumption) | (refine by8_13 ?_) | (apply rg34_of <;> assumption) | (refine rg_max ?_ ?_) | (apply rg_34; assumption) | (refine ixr_by8 ?_ ?_) | (refine IV_upd ?_ ?_) | (refine Un_upd rfl ?_) | (refine IV_cpy ?_ (fun _ _ _ _ => trivial)) | (refine Un_cpy rfl ?_) | (apply Un_tr; rotate_left; assumption; rfl) | (refine And.intro ?_ ?_))) <;> (first | rfl | decide | exact Or.inl rfl | exact Or.inr (Or.inl rfl) | exact Or.inr (Or.inr rfl) | (simp only [nrm, strm, by8] at * <;> omega) | (simp [upd4, cpy4, nrm, strm, by8] at * <;> omega))) | (refine ⟨((255 : Int) - (0)).toNat, e0, i0, x0, x1, x2, x3, _, 0, rfl, rfl, rfl, rfl, rfl, rfl, ?_, ?_, ?_, ?_, rfl, ?_, ?_⟩ <;> (repeat' (first | assumption | exact trivial | exact Un_rf | (apply by8_4; assumption) | (apply by8_9; assumption) | (apply by8_22; assumption) | (apply by8_g; assumption) | (refine by8_13 ?_) | (apply rg34_of <;> assumption) | (refine rg_max ?_ ?_) | (apply rg_34; assumption) | (refine ixr_by8 ?_ ?_) | (refine IV_upd ?_ ?_) | (refine Un_upd rfl ?_) | (refine IV_cpy ?_ (fun _ _ _ _ => trivial)) | (refine Un_cpy rfl ?_) | (apply Un_tr; rotate_left; assumption; rfl) | (refine And.intro ?_ ?_))) <;> (first | rfl | decide | exact Or.inl rfl | exact Or.inr (Or.inl rfl) | exact Or.inr (Or.inr rfl) | (simp only [nrm, strm, by8] at * <;> omega) | (simp [upd4, cpy4, nrm, strm, by8] at * <;> omega))) | (first | rfl | decide | exact Or.inl rfl | exact Or.inr (Or.inl rfl) | exact Or.inr (Or.inr rfl) | (simp only [nrm, strm, by8] at * <;> omega) | (simp [upd4, cpy4, nrm, strm, by8] at * <;> omega)) | ((repeat' (first | assumption | exact trivial | exact Un_rf | (apply by8_4; assumption) | (apply by8_9; assumption) | (apply by8_22; assumption) | (apply by8_g; assumption) | (refine by8_13 ?_) | (apply rg34_of <;> assumption) | (refine rg_max ?_ ?_) | (apply rg_34; assumption) | (refine ixr_by8 ?_ ?_) | (refine IV_upd ?_ ?_) | (refine Un_upd rfl ?_) | (refine IV_cpy ?_ (fun _ _ _ _ => trivial)) | (refine Un_cpy rfl ?_) | (apply Un_tr; rotate_left; assumption; rfl) | (refine And.intro ?_ ?_))) <;> (first | rfl | decide | exact Or.inl rfl | exact Or.inr (Or.inl rfl) | exact Or.inr (Or.inr rfl) | (simp only [nrm, strm, by8] at * <;> omega) | (simp [upd4, cpy4, nrm, strm, by8] at * <;> omega)))
  · intro av σ K kx n pc L st σ' nc ns hok hSp hJ
    obtain ⟨e, i, x, y, z, w, s, j, rfl, rfl, rfl, rfl, rfl, rfl, c0, c1, c2, c3, hn, hI, hU⟩ := hJ
    obtain ⟨-, -, -, -, -, hf⟩ : (7 : Nat) = 7 ∧ IV σ ∧ by8 x ∧ by8 y ∧ by8 z ∧ ∀ σ', IV σ' → Un [3, 4, 32] σ σ' → K none σ' := hSp
    all_goals (repeat' (first | (with_reducible assumption) | (with_reducible (apply by8_9; assumption)) | (with_reducible (apply by8_4; assumption)) | (with_reducible (apply by8_22; assumption)) | (with_reducible (apply by8_g; assumption)) | (with_reducible (apply rg34_of <;> assumption)) | (with_reducible refine rg_max ?_ ?_) | (with_reducible refine IV_upd ?_ ?_) | (with_reducible refine IV_cpy ?_ (fun _ _ _ _ => trivial)) | (refine And.intro ?_ ?_) | (intro _)))
    all_goals first | (apply hf <;> (repeat' (first | assumption | exact trivial | exact Un_rf | (apply by8_4; assumption) | (apply by8_9; assumption) | (apply by8_22; assumption) | (apply by8_g; assumption) | (refine by8_13 ?_) | (apply rg34_of <;> assumption) | (refine rg_max ?_ ?_) | (apply rg_34; assumption) | (refine ixr_by8 ?_ ?_) | (refine IV_upd ?_ ?_) | (refine Un_upd rfl ?_) | (refine IV_cpy ?_ (fun _ _ _ _ => trivial)) | (refine Un_cpy rfl ?_) | (apply Un_tr; rotate_left; assumption; rfl) | (refine And.intro ?_ ?_))) <;> (first | rfl | decide | exact Or.inl rfl | exact Or.inr (Or.inl rfl) | exact Or.inr (Or.inr rfl) | (simp only [nrm, strm, by8] at * <;> omega) | (simp [upd4, cpy4, nrm, strm, by8] at * <;> omega))) | (refine ⟨((255 : Int) - (j + 1)).toNat, ?_, e, i, x, y, z, w, s, j + 1, rfl, rfl, rfl, rfl, rfl, rfl, ?_, ?_, ?_, ?_, rfl, ?_, ?_⟩ <;> (repeat' (first | assumption | exact trivial | exact Un_rf | (apply by8_4; assumption) | (apply by8_9; assumption) | (apply by8_22; assumption) | (apply by8_g; assumption) | (refine by8_13 ?_) | (apply rg34_of <;> assumption) | (refine rg_max ?_ ?_) | (apply rg_34; assumption) | (refine ixr_by8 ?_ ?_) | (refine IV_upd ?_ ?_) | (refine Un_upd rfl ?_) | (refine IV_cpy ?_ (fun _ _ _ _ => trivial)) | (refine Un_cpy rfl ?_) | (apply Un_tr; rotate_left; assumption; rfl) | (refine And.intro ?_ ?_))) <;> (first | rfl | decide | exact Or.inl rfl | exact Or.inr (Or.inl rfl) | exact Or.inr (Or.inr rfl) | (simp only [nrm, strm, by8] at * <;> omega) | (simp [upd4, cpy4, nrm, strm, by8] at * <;> omega))) | (first | rfl | decide | exact Or.inl rfl | exact Or.inr (Or.inl rfl) | exact Or.inr (Or.inr rfl) | (simp only [nrm, strm, by8] at * <;> omega) | (simp [upd4, cpy4, nrm, strm, by8] at * <;> omega)) | ((repeat' (first | assumption | exact trivial | exact Un_rf | (apply by8_4; assumption) | (apply by8_9; assumption) | (apply by8_22; assumption) | (apply by8_g; assumption) | (refine by8_13 ?_) | (apply rg34_of <;> assumption) | (refine rg_max ?_ ?_) | (apply rg_34; assumption) | (refine ixr_by8 ?_ ?_) | (refine IV_upd ?_ ?_) | (refine Un_upd rfl ?_) | (refine IV_cpy ?_ (fun _ _ _ _ => trivial)) | (refine Un_cpy rfl ?_) | (apply Un_tr; rotate_left; assumption; rfl) | (refine And.intro ?_ ?_))) <;> (first | rfl | decide | exact Or.inl rfl | exact Or.inr (Or.inl rfl) | exact Or.inr (Or.inr rfl) | (simp only [nrm, strm, by8] at * <;> omega) | (simp [upd4, cpy4, nrm, strm, by8] at * <;> omega)))
end
section
def gt_End_tellKnown (a : Nat) : Option Nat := match a with
  | _ => none
theorem go_End_tellKnown : ∀ a v, gt_End_tellKnown a = some v → StaOK R_End a v := by
  intro a v h
  unfold gt_End_tellKnown at h
  cases h
def pr_End_tellKnown : List Ent := [(0, 3, 1, 0, 0), (1, 28, 0, 0, 22), (4, 3, 1, 0, 0), (5, 5, 0, 0, 0), (6, 39, 43, 0, 0), (9, 44, 0, 0, 0), (10, 35, 0, 0, 22), (13, 5, 0, 0, 0), (14, 39, 43, 0, 0), (17, 3, 1, 0, 0), (18, 41, 0, 0, 0), (19, 38, 0, 0, 23), (22, 0, 0, 0, 0), (23, 48, 0, 0, 0)]
def sw_End_tellKnown : List Swt := []
theorem dk_End_tellKnown : ∀ q ∈ pr_End_tellKnown, decode b_End_tellKnown q.1 = .ok (dec sw_End_tellKnown q) ∧ okE q = true := by decide +kernel
theorem nt_End_tellKnown : ∀ q ∈ pr_End_tellKnown, ¬ q.2.1 = 55 := by decide +kernel
def ct_End_tellKnown (a : Nat) : Option (Nat × Nat × CSp × Nat × Nat) := match a with
  | _ => none
theorem co_End_tellKnown : ∀ a v, ct_End_tellKnown a = some v → StcOK R_End 0 0 a v := by
  intro a v h
  unfold ct_End_tellKnown at h
  cases h
/-- End_tellKnown -/
def sp_End_tellKnown : CSp := sRI (fun q x σ K _ => q.1 = 7 ∧ ∀ r, K (some (.inl r)) σ)
set_option maxHeartbeats 4000000 in
set_option maxRecDepth 100000 in
theorem c_End_tellKnown : Ctr y_End_tellKnown b_End_tellKnown 2 (some .int) 0 0 0 0 sp_End_tellKnown := by
  refine ctr_of (FT := ft_End) (GT := gt_End_tellKnown) (CT := ct_End_tellKnown) (sw := sw_End_tellKnown) (rt := 0) (pr := pr_End_tellKnown) (by decide) [] (fun _ _ _ _ _ _ _ _ _ _ _ => False) 30 ⟨fun _ => rfl, fun h => absurd h (by decide), fun h => absurd h (by decide), fun h => absurd h (by decide)⟩ dk_End_tellKnown fo_End go_End_tellKnown co_End_tellKnown (fun a k h hk => by unfold gt_End_tellKnown at h; cases h) (fun q hq h => absurd h (nt_End_tellKnown q hq)) (fun av σ K kx h => by rw [sRI_len h]; decide) ?_ ?_
  · intro av σ K kx hok hSp
    obtain ⟨q0, x0, rfl, hp⟩ := sRI_inv hSp
    obtain ⟨k0, e0, i0⟩ := q0
    obtain ⟨h0, h1⟩ := hp
    dsimp only at h0; subst h0
    all_goals (repeat' (first | (with_reducible assumption) | (with_reducible (apply by8_9; assumption)) | (with_reducible (apply by8_4; assumption)) | (with_reducible (apply by8_22; assumption)) | (with_reducible (apply by8_g; assumption)) | (with_reducible (apply rg34_of <;> assumption)) | (with_reducible refine rg_max ?_ ?_) | (with_reducible refine IV_upd ?_ ?_) | (with_reducible refine IV_cpy ?_ (fun _ _ _ _ => trivial)) | (refine And.intro ?_ ?_) | (intro _)))
    all_goals first | (exact h1) | (refine h1 _ ?_ ?_ <;> (repeat' (first | assumption | exact trivial | exact Un_rf | (apply by8_4; assumption) | (apply by8_9; assumption) | (apply by8_22; assumption) | (apply by8_g; assumption) | (refine by8_13 ?_) | (apply rg34_of <;> assumption) | (refine rg_max ?_ ?_) | (apply rg_34; assumption) | (refine ixr_by8 ?_ ?_) | (refine IV_upd ?_ ?_) | (refine Un_upd rfl ?_) | (refine IV_cpy ?_ (fun _ _ _ _ => trivial)) | (refine Un_cpy rfl ?_) | (apply Un_tr; rotate_left; assumption; rfl) | (refine And.intro ?_ ?_))) <;> (first | rfl | decide | exact Or.inl rfl | exact Or.inr (Or.inl rfl) | exact Or.inr (Or.inr rfl) | (simp only [nrm, strm, by8] at * <;> omega) | (simp [upd4, cpy4, nrm, strm, by8] at * <;> omega))) | (apply h1 <;> (repeat' (first | assumption | exact trivial | exact Un_rf | (apply by8_4; assumption) | (apply by8_9; assumption) | (apply by8_22; assumption) | (apply by8_g; assumption) | (refine by8_13 ?_) | (apply rg34_of <;> assumption) | (refine rg_max ?_ ?_) | (apply rg_34; assumption) | (refine ixr_by8 ?_ ?_) | (refine IV_upd ?_ ?_) | (refine Un_upd rfl ?_) | (refine IV_cpy ?_ (fun _ _ _ _ => trivial)) | (refine Un_cpy rfl ?_) | (apply Un_tr; rotate_left; assumption; rfl) | (refine And.intro ?_ ?_))) <;> (first | rfl | decide | exact Or.inl rfl | exact Or.inr (Or.inl rfl) | exact Or.inr (Or.inr rfl) | (simp only [nrm, strm, by8] at * <;> omega) | (simp [upd4, cpy4, nrm, strm, by8] at * <;> omega))) | (first | rfl | decide | exact Or.inl rfl | exact Or.inr (Or.inl rfl) | exact Or.inr (Or.inr rfl) | (simp only [nrm, strm, by8] at * <;> omega) | (simp [upd4, cpy4, nrm, strm, by8] at * <;> omega)) | ((repeat' (first | assumption | exact trivial | exact Un_rf | (apply by8_4; assumption) | (apply by8_9; assumption) | (apply by8_22; assumption) | (apply by8_g; assumption) | (refine by8_13 ?_) | (apply rg34_of <;> assumption) | (refine rg_max ?_ ?_) | (apply rg_34; assumption) | (refine ixr_by8 ?_ ?_) | (refine IV_upd ?_ ?_) | (refine Un_upd rfl ?_) | (refine IV_cpy ?_ (fun _ _ _ _ => trivial)) | (refine Un_cpy rfl ?_) | (apply Un_tr; rotate_left; assumption; rfl) | (refine And.intro ?_ ?_))) <;> (first | rfl | decide | exact Or.inl rfl | exact Or.inr (Or.inl rfl) | exact Or.inr (Or.inr rfl) | (simp only [nrm, strm, by8] at * <;> omega) | (simp [upd4, cpy4, nrm, strm, by8] at * <;> omega)))
  · intro av σ K kx n pc L st σ' nc ns _ _ h
    exact (h : False).elim
def gt_End_tell (a : Nat) : Option Nat := match a with
  | _ => none
theorem go_End_tell : ∀ a v, gt_End_tell a = some v → StaOK R_End a v := by
  intro a v h
  unfold gt_End_tell at h
  cases h
def pr_End_tell : List Ent := [(0, 3, 1, 0, 0), (1, 51, 0, 0, 0), (48, 5, 0, 0, 0), (49, 39, 59, 0, 0), (52, 48, 0, 0, 0), (53, 5, 0, 0, 0), (54, 39, 66, 0, 0), (57, 46, 268, 0, 0), (60, 48, 0, 0, 0), (61, 5, 0, 0, 0), (62, 39, 21, 0, 0), (65, 46, 271, 0, 0), (68, 46, 275, 0, 0), (71, 48, 0, 0, 0), (72, 5, 0, 0, 0), (73, 39, 85, 0, 0), (76, 46, 278, 0, 0), (79, 46, 275, 0, 0), (82, 48, 0, 0, 0), (83, 5, 0, 0, 0), (84, 39, 53, 0, 0), (87, 48, 0, 0, 0), (88, 5, 0, 0, 0), (89, 46, 110, 0, 0), (92, 48, 0, 0, 0), (93, 5, 0, 0, 0), (94, 39, 12, 0, 0), (97, 46, 279, 0, 0), (100, 48, 0, 0, 0), (101, 5, 0, 0, 0), (102, 39, 56, 0, 0), (105, 48, 0, 0, 0), (106, 5, 0, 0, 0), (107, 3, 1, 0, 0), (108, 1, 0, 8, 0), (110, 13, 0, 0, 0), (111, 46, 280, 0, 0), (114, 48, 0, 0, 0)]
def sw_End_tell : List Swt := [(0, [48, 53, 61, 72, 83, 88, 93, 101], 106, 47)]
theorem dk_End_tell : ∀ q ∈ pr_End_tell, decode b_End_tell q.1 = .ok (dec sw_End_tell q) ∧ okE q = true := by decide +kernel
theorem nt_End_tell : ∀ q ∈ pr_End_tell, ¬ q.2.1 = 55 := by decide +kernel
def ct_End_tell (a : Nat) : Option (Nat × Nat × CSp × Nat × Nat) := match a with
  | 110 => some (1, 3, sp_End_liveStreams, 0, 0)
  | 268 => some (1, 8, sp_Wire_count, 0, 0)
  | 271 => some (1, 2, sp_BlockWriter_table, 0, 0)
  | 275 => some (1, 7, sp_Table_count, 0, 0)
  | 278 => some (1, 1, sp_BlockReader_table, 0, 0)
  | 279 => some (1, 4, sp_Fields_count, 0, 0)
  | 280 => some (2, 3, sp_End_tellKnown, 0, 0)
  | _ => none
theorem co_End_tell : ∀ a v, ct_End_tell a = some v → StcOK R_End 3 62 a v := by
  intro a v h
  unfold ct_End_tell at h
  split at h
  · cases h; exact ⟨y_End_liveStreams, b_End_liveStreams, 3, (some .int), 2, 40, 0, c_End_liveStreams, by decide, by decide +kernel, by decide +kernel, by decide +kernel, Or.inl ⟨rfl, by decide, by decide +kernel, by decide +kernel, _, _, rfl, by decide +kernel⟩⟩
  · cases h; exact ⟨y_Wire_count, b_Wire_count, 1, (some .int), 0, 0, 0, c_Wire_count, by decide, by decide +kernel, by decide +kernel, by decide +kernel, Or.inl ⟨rfl, by decide, by decide +kernel, by decide +kernel, _, _, rfl, by decide +kernel⟩⟩
  · cases h; exact ⟨y_BlockWriter_table, b_BlockWriter_table, 1, (some (.object "FrameStreams$Table")), 0, 0, 0, c_BlockWriter_table, by decide, by decide +kernel, by decide +kernel, by decide +kernel, Or.inl ⟨rfl, by decide, by decide +kernel, by decide +kernel, _, _, rfl, by decide +kernel⟩⟩
  · cases h; exact ⟨y_Table_count, b_Table_count, 1, (some .int), 0, 0, 0, c_Table_count, by decide, by decide +kernel, by decide +kernel, by decide +kernel, Or.inl ⟨rfl, by decide, by decide +kernel, by decide +kernel, _, _, rfl, by decide +kernel⟩⟩
  · cases h; exact ⟨y_BlockReader_table, b_BlockReader_table, 1, (some (.object "FrameStreams$Table")), 0, 0, 0, c_BlockReader_table, by decide, by decide +kernel, by decide +kernel, by decide +kernel, Or.inl ⟨rfl, by decide, by decide +kernel, by decide +kernel, _, _, rfl, by decide +kernel⟩⟩
  · cases h; exact ⟨y_Fields_count, b_Fields_count, 1, (some .int), 0, 0, 0, c_Fields_count, by decide, by decide +kernel, by decide +kernel, by decide +kernel, Or.inl ⟨rfl, by decide, by decide +kernel, by decide +kernel, _, _, rfl, by decide +kernel⟩⟩
  · cases h; exact ⟨y_End_tellKnown, b_End_tellKnown, 2, (some .int), 0, 0, 1, c_End_tellKnown, by decide, by decide +kernel, by decide +kernel, by decide +kernel, Or.inl ⟨rfl, by decide, by decide +kernel, by decide +kernel, _, _, rfl, by decide +kernel⟩⟩
  · cases h
/-- End_tell -/
def sp_End_tell : CSp := sRI (fun q x σ K _ => q.1 = 7 ∧ ∀ r, K (some (.inl r)) σ)
set_option maxHeartbeats 4000000 in
set_option maxRecDepth 100000 in
theorem c_End_tell : Ctr y_End_tell b_End_tell 2 (some .int) 3 62 0 0 sp_End_tell := by
  refine ctr_of (FT := ft_End) (GT := gt_End_tell) (CT := ct_End_tell) (sw := sw_End_tell) (rt := 0) (pr := pr_End_tell) (by decide) [] (fun _ _ _ _ _ _ _ _ _ _ _ => False) 50 ⟨fun _ => rfl, fun h => absurd h (by decide), fun h => absurd h (by decide), fun h => absurd h (by decide)⟩ dk_End_tell fo_End go_End_tell co_End_tell (fun a k h hk => by unfold gt_End_tell at h; cases h) (fun q hq h => absurd h (nt_End_tell q hq)) (fun av σ K kx h => by rw [sRI_len h]; decide) ?_ ?_
  · intro av σ K kx hok hSp
    obtain ⟨q0, x0, rfl, hp⟩ := sRI_inv hSp
    obtain ⟨k0, e0, i0⟩ := q0
    obtain ⟨h0, h1⟩ := hp
    dsimp only at h0; subst h0
    all_goals (repeat' (first | (with_reducible assumption) | (with_reducible (apply by8_9; assumption)) | (with_reducible (apply by8_4; assumption)) | (with_reducible (apply by8_22; assumption)) | (with_reducible (apply by8_g; assumption)) | (with_reducible (apply rg34_of <;> assumption)) | (with_reducible refine rg_max ?_ ?_) | (with_reducible refine IV_upd ?_ ?_) | (with_reducible refine IV_cpy ?_ (fun _ _ _ _ => trivial)) | (refine And.intro ?_ ?_) | (intro _)))
    all_goals first | (exact h1) | (refine h1 _ ?_ ?_ <;> (repeat' (first | assumption | exact trivial | exact Un_rf | (apply by8_4; assumption) | (apply by8_9; assumption) | (apply by8_22; assumption) | (apply by8_g; assumption) | (refine by8_13 ?_) | (apply rg34_of <;> assumption) | (refine rg_max ?_ ?_) | (apply rg_34; assumption) | (refine ixr_by8 ?_ ?_) | (refine IV_upd ?_ ?_) | (refine Un_upd rfl ?_) | (refine IV_cpy ?_ (fun _ _ _ _ => trivial)) | (refine Un_cpy rfl ?_) | (apply Un_tr; rotate_left; assumption; rfl) | (refine And.intro ?_ ?_))) <;> (first | rfl | decide | exact Or.inl rfl | exact Or.inr (Or.inl rfl) | exact Or.inr (Or.inr rfl) | (simp only [nrm, strm, by8] at * <;> omega) | (simp [upd4, cpy4, nrm, strm, by8] at * <;> omega))) | (apply h1 <;> (repeat' (first | assumption | exact trivial | exact Un_rf | (apply by8_4; assumption) | (apply by8_9; assumption) | (apply by8_22; assumption) | (apply by8_g; assumption) | (refine by8_13 ?_) | (apply rg34_of <;> assumption) | (refine rg_max ?_ ?_) | (apply rg_34; assumption) | (refine ixr_by8 ?_ ?_) | (refine IV_upd ?_ ?_) | (refine Un_upd rfl ?_) | (refine IV_cpy ?_ (fun _ _ _ _ => trivial)) | (refine Un_cpy rfl ?_) | (apply Un_tr; rotate_left; assumption; rfl) | (refine And.intro ?_ ?_))) <;> (first | rfl | decide | exact Or.inl rfl | exact Or.inr (Or.inl rfl) | exact Or.inr (Or.inr rfl) | (simp only [nrm, strm, by8] at * <;> omega) | (simp [upd4, cpy4, nrm, strm, by8] at * <;> omega))) | (first | rfl | decide | exact Or.inl rfl | exact Or.inr (Or.inl rfl) | exact Or.inr (Or.inr rfl) | (simp only [nrm, strm, by8] at * <;> omega) | (simp [upd4, cpy4, nrm, strm, by8] at * <;> omega)) | ((repeat' (first | assumption | exact trivial | exact Un_rf | (apply by8_4; assumption) | (apply by8_9; assumption) | (apply by8_22; assumption) | (apply by8_g; assumption) | (refine by8_13 ?_) | (apply rg34_of <;> assumption) | (refine rg_max ?_ ?_) | (apply rg_34; assumption) | (refine ixr_by8 ?_ ?_) | (refine IV_upd ?_ ?_) | (refine Un_upd rfl ?_) | (refine IV_cpy ?_ (fun _ _ _ _ => trivial)) | (refine Un_cpy rfl ?_) | (apply Un_tr; rotate_left; assumption; rfl) | (refine And.intro ?_ ?_))) <;> (first | rfl | decide | exact Or.inl rfl | exact Or.inr (Or.inl rfl) | exact Or.inr (Or.inr rfl) | (simp only [nrm, strm, by8] at * <;> omega) | (simp [upd4, cpy4, nrm, strm, by8] at * <;> omega)))
  · intro av σ K kx n pc L st σ' nc ns _ _ h
    exact (h : False).elim
end
section
def rI (x : Int) : Prop := -2147483648 ≤ x ∧ x ≤ 2147483647
theorem un_op {σ σ1 : Sg} {e i : Nat} (hU : Un [13, 18, 19, 20, 21, 22] σ σ1) (h : σ 7 e i 10 ≤ 6) : σ1 7 e i 10 ≤ 6 := by
  rw [hU 7 e i 10 rfl]; exact h
theorem un_st {σ σ1 : Sg} {e i : Nat} (hU : Un [13, 18, 19, 20, 21, 22] σ σ1) (h : ¬ nrm (σ 32 e i 1) = 0) (h2 : nrm (σ1 32 e i 1) = 0) : False := by
  rw [hU 32 e i 1 rfl] at h2; exact h h2
/-- a text with one letter more -/
def addl (t x : Int) : Int := ior t (isl (x - 97 + 1) (5 * tl t))
abbrev UA : List Nat := [3, 4, 7, 8, 9, 10, 11, 12, 13, 14, 15, 16, 17, 18, 19, 20, 21, 22, 23, 24, 25, 26, 27, 28, 29, 30, 32, 33, 34, 35, 36, 37]
def XE (E : String) : Prop := E = exn 1 ∨ E = exn 2 ∨ E = exn 3 ∨ E = exn 4
def pubK (σ : Sg) (K : Option AV → Sg → Prop) : Prop := ∀ r σ', IV σ' → Un UA σ σ' → K (some (.inl r)) σ'
def pubX (σ : Sg) (kx : String → Sg → Prop) : Prop := ∀ E σ', XE E → IV σ' → Un UA σ σ' → kx E σ'
theorem px1 {σ σ' : Sg} {kx : String → Sg → Prop} (h : pubX σ kx) (hI : IV σ') (hU : Un UA σ σ') : kx (exn 1) σ' := h _ _ (Or.inl rfl) hI hU
theorem px2 {σ σ' : Sg} {kx : String → Sg → Prop} (h : pubX σ kx) (hI : IV σ') (hU : Un UA σ σ') : kx (exn 2) σ' := h _ _ (Or.inr (Or.inl rfl)) hI hU
theorem px3 {σ σ' : Sg} {kx : String → Sg → Prop} (h : pubX σ kx) (hI : IV σ') (hU : Un UA σ σ') : kx (exn 3) σ' := h _ _ (Or.inr (Or.inr (Or.inl rfl))) hI hU
theorem px4 {σ σ' : Sg} {kx : String → Sg → Prop} (h : pubX σ kx) (hI : IV σ') (hU : Un UA σ σ') : kx (exn 4) σ' := h _ _ (Or.inr (Or.inr (Or.inr rfl))) hI hU
theorem pk {σ σ' : Sg} {K : Option AV → Sg → Prop} {r : Int} (h : pubK σ K) (hI : IV σ') (hU : Un UA σ σ') : K (some (.inl r)) σ' := h r σ' hI hU
def gt_FrameStreams_letter (a : Nat) : Option Nat := match a with
  | _ => none
theorem go_FrameStreams_letter : ∀ a v, gt_FrameStreams_letter a = some v → StaOK R_FrameStreams a v := by
  intro a v h
  unfold gt_FrameStreams_letter at h
  cases h
def pr_FrameStreams_letter : List Ent := [(0, 3, 1, 0, 0), (1, 0, 0, 0, 0), (2, 1, 0, 7, 0), (4, 47, 25, 0, 0), (7, 3, 2, 0, 0), (8, 1, 0, 97, 0), (10, 1, 0, 122, 0), (12, 47, 25, 0, 0), (15, 5, 0, 0, 0), (16, 39, 9, 0, 0), (19, 3, 1, 0, 0), (20, 41, 0, 0, 0), (21, 47, 31, 0, 0), (24, 1, 0, 6, 0), (26, 35, 0, 0, 33), (29, 0, 0, 1, 0), (30, 38, 0, 0, 34), (33, 0, 0, 0, 0), (34, 47, 35, 0, 0), (37, 5, 0, 0, 0), (38, 39, 9, 0, 0), (41, 3, 1, 0, 0), (42, 5, 0, 0, 0), (43, 39, 9, 0, 0), (46, 3, 1, 0, 0), (47, 41, 0, 0, 0), (48, 3, 2, 0, 0), (49, 47, 39, 0, 0), (52, 42, 0, 0, 0), (53, 5, 0, 0, 0), (54, 39, 9, 0, 0), (57, 3, 1, 0, 0), (58, 41, 0, 0, 0), (59, 47, 31, 0, 0), (62, 48, 0, 0, 0)]
def sw_FrameStreams_letter : List Swt := []
theorem dk_FrameStreams_letter : ∀ q ∈ pr_FrameStreams_letter, decode b_FrameStreams_letter q.1 = .ok (dec sw_FrameStreams_letter q) ∧ okE q = true := by decide +kernel
theorem nt_FrameStreams_letter : ∀ q ∈ pr_FrameStreams_letter, ¬ q.2.1 = 55 := by decide +kernel
def ct_FrameStreams_letter (a : Nat) : Option (Nat × Nat × CSp × Nat × Nat) := match a with
  | 25 => some (3, 1000, sp_FrameStreams_requireWithin, 1, 6)
  | 31 => some (1, 1000, sp_Letters_length, 0, 0)
  | 35 => some (1, 1000, sp_FrameStreams_requireState, 1, 6)
  | 39 => some (2, 1000, sp_Letters_append, 0, 0)
  | _ => none
theorem co_FrameStreams_letter : ∀ a v, ct_FrameStreams_letter a = some v → StcOK R_FrameStreams 8 131 a v := by
  intro a v h
  unfold ct_FrameStreams_letter at h
  split at h
  · cases h; exact ⟨y_FrameStreams_requireWithin, b_FrameStreams_requireWithin, 3, none, 7, 109, 3, c_FrameStreams_requireWithin, by decide, by decide +kernel, by decide +kernel, by decide +kernel, (by first | exact Or.inr (Or.inl ⟨rfl, rfl, by decide +kernel, by decide +kernel⟩) | exact Or.inr (Or.inr ⟨rfl, rfl, ⟨"FrameStreams", by decide +kernel⟩, by decide +kernel⟩))⟩
  · cases h; exact ⟨y_Letters_length, b_Letters_length, 2, (some .int), 0, 0, 1, c_Letters_length, by decide, by decide +kernel, by decide +kernel, by decide +kernel, (by first | exact Or.inr (Or.inl ⟨rfl, rfl, by decide +kernel, by decide +kernel⟩) | exact Or.inr (Or.inr ⟨rfl, rfl, ⟨"FrameStreams", by decide +kernel⟩, by decide +kernel⟩))⟩
  · cases h; exact ⟨y_FrameStreams_requireState, b_FrameStreams_requireState, 1, none, 6, 89, 1, c_FrameStreams_requireState, by decide, by decide +kernel, by decide +kernel, by decide +kernel, (by first | exact Or.inr (Or.inl ⟨rfl, rfl, by decide +kernel, by decide +kernel⟩) | exact Or.inr (Or.inr ⟨rfl, rfl, ⟨"FrameStreams", by decide +kernel⟩, by decide +kernel⟩))⟩
  · cases h; exact ⟨y_Letters_append, b_Letters_append, 2, (some .int), 1, 21, 2, c_Letters_append, by decide, by decide +kernel, by decide +kernel, by decide +kernel, (by first | exact Or.inr (Or.inl ⟨rfl, rfl, by decide +kernel, by decide +kernel⟩) | exact Or.inr (Or.inr ⟨rfl, rfl, ⟨"FrameStreams", by decide +kernel⟩, by decide +kernel⟩))⟩
  · cases h
/-- FrameStreams_letter -/
def sp_FrameStreams_letter : CSp := sRII (fun q x0 x1 σ K kx => q.1 = 0 ∧ IV σ ∧ ((0 ≤ nrm x0 ∧ nrm x0 ≤ 7) ∧ (97 ≤ nrm x1 ∧ nrm x1 ≤ 122) → tl (σ 1 0 0 (nrm x0).toNat) < 6 → K (some (.inl (tl (upd4 σ 1 0 0 (nrm x0).toNat (addl (σ 1 0 0 (nrm x0).toNat) x1) 1 0 0 (nrm x0).toNat)))) (upd4 σ 1 0 0 (nrm x0).toNat (addl (σ 1 0 0 (nrm x0).toNat) x1))) ∧ ((0 ≤ nrm x0 ∧ nrm x0 ≤ 7) ∧ (97 ≤ nrm x1 ∧ nrm x1 ≤ 122) → 6 ≤ tl (σ 1 0 0 (nrm x0).toNat) → kx (exn 4) σ) ∧ (¬ ((0 ≤ nrm x0 ∧ nrm x0 ≤ 7) ∧ (97 ≤ nrm x1 ∧ nrm x1 ≤ 122)) → kx (exn 1) σ))
set_option maxHeartbeats 4000000 in
set_option maxRecDepth 100000 in
theorem c_FrameStreams_letter : Ctr y_FrameStreams_letter b_FrameStreams_letter 3 (some .int) 8 131 3 18 sp_FrameStreams_letter := by
  refine ctr_of (FT := ft_FrameStreams) (GT := gt_FrameStreams_letter) (CT := ct_FrameStreams_letter) (sw := sw_FrameStreams_letter) (rt := 0) (pr := pr_FrameStreams_letter) (by decide) [] (fun _ _ _ _ _ _ _ _ _ _ _ => False) 50 ⟨fun _ => rfl, fun h => absurd h (by decide), fun h => absurd h (by decide), fun h => absurd h (by decide)⟩ dk_FrameStreams_letter fo_FrameStreams go_FrameStreams_letter co_FrameStreams_letter (fun a k h hk => by unfold gt_FrameStreams_letter at h; cases h) (fun q hq h => absurd h (nt_FrameStreams_letter q hq)) (fun av σ K kx h => by rw [sRII_len h]; decide) ?_ ?_
  · intro av σ K kx hok hSp
    obtain ⟨q0, x0, x1, rfl, hp⟩ := sRII_inv hSp
    obtain ⟨k0, e0, i0⟩ := q0
    obtain ⟨h0, hI, h2, h3, h4⟩ := hp
    dsimp only at h0; subst h0
    have t1 := tl_rg (σ 1 0 0 (nrm x0).toNat)
    all_goals (repeat' (first | (with_reducible assumption) | (with_reducible (apply by8_9; assumption)) | (with_reducible (apply by8_4; assumption)) | (with_reducible (apply by8_22; assumption)) | (with_reducible (apply by8_g; assumption)) | (with_reducible refine IV_upd ?_ ?_) | (with_reducible refine IV_cpy ?_ (fun _ _ _ _ => trivial)) | (refine And.intro ?_ ?_) | (intro _)))
    all_goals first | (exact h2 (by (first | rfl | decide | exact Or.inl rfl | exact Or.inr (Or.inl rfl) | exact Or.inr (Or.inr rfl) | (simp only [nrm, strm, by8] at * <;> omega) | (simp [upd4, cpy4, nrm, strm, by8] at * <;> omega))) (by (first | rfl | decide | exact Or.inl rfl | exact Or.inr (Or.inl rfl) | exact Or.inr (Or.inr rfl) | (simp only [nrm, strm, by8] at * <;> omega) | (simp [upd4, cpy4, nrm, strm, by8] at * <;> omega)))) | (exact h3 (by (first | rfl | decide | exact Or.inl rfl | exact Or.inr (Or.inl rfl) | exact Or.inr (Or.inr rfl) | (simp only [nrm, strm, by8] at * <;> omega) | (simp [upd4, cpy4, nrm, strm, by8] at * <;> omega))) (by (first | rfl | decide | exact Or.inl rfl | exact Or.inr (Or.inl rfl) | exact Or.inr (Or.inr rfl) | (simp only [nrm, strm, by8] at * <;> omega) | (simp [upd4, cpy4, nrm, strm, by8] at * <;> omega)))) | (exact h4 (by (first | rfl | decide | exact Or.inl rfl | exact Or.inr (Or.inl rfl) | exact Or.inr (Or.inr rfl) | (simp only [nrm, strm, by8] at * <;> omega) | (simp [upd4, cpy4, nrm, strm, by8] at * <;> omega)))) | (first | rfl | decide | exact Or.inl rfl | exact Or.inr (Or.inl rfl) | exact Or.inr (Or.inr rfl) | (simp only [nrm, strm, by8] at * <;> omega) | (simp [upd4, cpy4, nrm, strm, by8] at * <;> omega))
  · intro av σ K kx n pc L st σ' nc ns _ _ h
    exact (h : False).elim
def gt_FrameStreams_wipe (a : Nat) : Option Nat := match a with
  | _ => none
theorem go_FrameStreams_wipe : ∀ a v, gt_FrameStreams_wipe a = some v → StaOK R_FrameStreams a v := by
  intro a v h
  unfold gt_FrameStreams_wipe at h
  cases h
def pr_FrameStreams_wipe : List Ent := [(0, 3, 1, 0, 0), (1, 0, 0, 0, 0), (2, 1, 0, 7, 0), (4, 47, 25, 0, 0), (7, 5, 0, 0, 0), (8, 39, 9, 0, 0), (11, 3, 1, 0, 0), (12, 41, 0, 0, 0), (13, 47, 31, 0, 0), (16, 7, 2, 0, 0), (17, 5, 0, 0, 0), (18, 39, 9, 0, 0), (21, 3, 1, 0, 0), (22, 0, 0, 0, 0), (23, 42, 0, 0, 0), (24, 3, 2, 0, 0), (25, 48, 0, 0, 0)]
def sw_FrameStreams_wipe : List Swt := []
theorem dk_FrameStreams_wipe : ∀ q ∈ pr_FrameStreams_wipe, decode b_FrameStreams_wipe q.1 = .ok (dec sw_FrameStreams_wipe q) ∧ okE q = true := by decide +kernel
theorem nt_FrameStreams_wipe : ∀ q ∈ pr_FrameStreams_wipe, ¬ q.2.1 = 55 := by decide +kernel
def ct_FrameStreams_wipe (a : Nat) : Option (Nat × Nat × CSp × Nat × Nat) := match a with
  | 25 => some (3, 1000, sp_FrameStreams_requireWithin, 1, 6)
  | 31 => some (1, 1000, sp_Letters_length, 0, 0)
  | _ => none
theorem co_FrameStreams_wipe : ∀ a v, ct_FrameStreams_wipe a = some v → StcOK R_FrameStreams 8 131 a v := by
  intro a v h
  unfold ct_FrameStreams_wipe at h
  split at h
  · cases h; exact ⟨y_FrameStreams_requireWithin, b_FrameStreams_requireWithin, 3, none, 7, 109, 3, c_FrameStreams_requireWithin, by decide, by decide +kernel, by decide +kernel, by decide +kernel, (by first | exact Or.inr (Or.inl ⟨rfl, rfl, by decide +kernel, by decide +kernel⟩) | exact Or.inr (Or.inr ⟨rfl, rfl, ⟨"FrameStreams", by decide +kernel⟩, by decide +kernel⟩))⟩
  · cases h; exact ⟨y_Letters_length, b_Letters_length, 2, (some .int), 0, 0, 1, c_Letters_length, by decide, by decide +kernel, by decide +kernel, by decide +kernel, (by first | exact Or.inr (Or.inl ⟨rfl, rfl, by decide +kernel, by decide +kernel⟩) | exact Or.inr (Or.inr ⟨rfl, rfl, ⟨"FrameStreams", by decide +kernel⟩, by decide +kernel⟩))⟩
  · cases h
/-- FrameStreams_wipe -/
def sp_FrameStreams_wipe : CSp := sRI (fun q x0 σ K kx => q.1 = 0 ∧ IV σ ∧ (0 ≤ nrm x0 ∧ nrm x0 ≤ 7 → K (some (.inl (tl (σ 1 0 0 (nrm x0).toNat)))) (upd4 σ 1 0 0 (nrm x0).toNat 0)) ∧ (¬ (0 ≤ nrm x0 ∧ nrm x0 ≤ 7) → kx (exn 1) σ))
set_option maxHeartbeats 4000000 in
set_option maxRecDepth 100000 in
theorem c_FrameStreams_wipe : Ctr y_FrameStreams_wipe b_FrameStreams_wipe 3 (some .int) 8 131 1 6 sp_FrameStreams_wipe := by
  refine ctr_of (FT := ft_FrameStreams) (GT := gt_FrameStreams_wipe) (CT := ct_FrameStreams_wipe) (sw := sw_FrameStreams_wipe) (rt := 0) (pr := pr_FrameStreams_wipe) (by decide) [] (fun _ _ _ _ _ _ _ _ _ _ _ => False) 30 ⟨fun _ => rfl, fun h => absurd h (by decide), fun h => absurd h (by decide), fun h => absurd h (by decide)⟩ dk_FrameStreams_wipe fo_FrameStreams go_FrameStreams_wipe co_FrameStreams_wipe (fun a k h hk => by unfold gt_FrameStreams_wipe at h; cases h) (fun q hq h => absurd h (nt_FrameStreams_wipe q hq)) (fun av σ K kx h => by rw [sRI_len h]; decide) ?_ ?_
  · intro av σ K kx hok hSp
    obtain ⟨q0, x0, rfl, hp⟩ := sRI_inv hSp
    obtain ⟨k0, e0, i0⟩ := q0
    obtain ⟨h0, hI, h2, h3⟩ := hp
    dsimp only at h0; subst h0
    all_goals (repeat' (first | (with_reducible assumption) | (with_reducible (apply by8_9; assumption)) | (with_reducible (apply by8_4; assumption)) | (with_reducible (apply by8_22; assumption)) | (with_reducible (apply by8_g; assumption)) | (with_reducible refine IV_upd ?_ ?_) | (with_reducible refine IV_cpy ?_ (fun _ _ _ _ => trivial)) | (refine And.intro ?_ ?_) | (intro _)))
    all_goals first | (exact h2 (by (first | rfl | decide | exact Or.inl rfl | exact Or.inr (Or.inl rfl) | exact Or.inr (Or.inr rfl) | (simp only [nrm, strm, by8] at * <;> omega) | (simp [upd4, cpy4, nrm, strm, by8] at * <;> omega)))) | (exact h3 (by (first | rfl | decide | exact Or.inl rfl | exact Or.inr (Or.inl rfl) | exact Or.inr (Or.inr rfl) | (simp only [nrm, strm, by8] at * <;> omega) | (simp [upd4, cpy4, nrm, strm, by8] at * <;> omega)))) | (first | rfl | decide | exact Or.inl rfl | exact Or.inr (Or.inl rfl) | exact Or.inr (Or.inr rfl) | (simp only [nrm, strm, by8] at * <;> omega) | (simp [upd4, cpy4, nrm, strm, by8] at * <;> omega))
  · intro av σ K kx n pc L st σ' nc ns _ _ h
    exact (h : False).elim
def gt_FrameStreams_ping (a : Nat) : Option Nat := match a with
  | _ => none
theorem go_FrameStreams_ping : ∀ a v, gt_FrameStreams_ping a = some v → StaOK R_FrameStreams a v := by
  intro a v h
  unfold gt_FrameStreams_ping at h
  cases h
def pr_FrameStreams_ping : List Ent := [(0, 3, 1, 0, 0), (1, 0, 0, 0, 0), (2, 0, 0, 1, 0), (3, 47, 25, 0, 0), (6, 3, 2, 0, 0), (7, 0, 0, 0, 0), (8, 2, 0, 255, 0), (11, 47, 25, 0, 0), (14, 5, 0, 0, 0), (15, 39, 15, 0, 0), (18, 3, 1, 0, 0), (19, 43, 0, 0, 0), (20, 0, 0, 1, 0), (21, 46, 87, 0, 0), (24, 47, 35, 0, 0), (27, 5, 0, 0, 0), (28, 39, 15, 0, 0), (31, 3, 1, 0, 0), (32, 43, 0, 0, 0), (33, 1, 0, 6, 0), (35, 0, 0, 0, 0), (36, 0, 0, 0, 0), (37, 3, 2, 0, 0), (38, 46, 106, 0, 0), (41, 24, 0, 0, 0), (42, 0, 0, 0, 0), (43, 48, 0, 0, 0)]
def sw_FrameStreams_ping : List Swt := []
theorem dk_FrameStreams_ping : ∀ q ∈ pr_FrameStreams_ping, decode b_FrameStreams_ping q.1 = .ok (dec sw_FrameStreams_ping q) ∧ okE q = true := by decide +kernel
theorem nt_FrameStreams_ping : ∀ q ∈ pr_FrameStreams_ping, ¬ q.2.1 = 55 := by decide +kernel
def ct_FrameStreams_ping (a : Nat) : Option (Nat × Nat × CSp × Nat × Nat) := match a with
  | 25 => some (3, 1000, sp_FrameStreams_requireWithin, 1, 6)
  | 35 => some (1, 1000, sp_FrameStreams_requireState, 1, 6)
  | 87 => some (2, 3, sp_End_maySend, 0, 0)
  | 106 => some (5, 3, sp_End_sendByte, 0, 0)
  | _ => none
theorem co_FrameStreams_ping : ∀ a v, ct_FrameStreams_ping a = some v → StcOK R_FrameStreams 8 131 a v := by
  intro a v h
  unfold ct_FrameStreams_ping at h
  split at h
  · cases h; exact ⟨y_FrameStreams_requireWithin, b_FrameStreams_requireWithin, 3, none, 7, 109, 3, c_FrameStreams_requireWithin, by decide, by decide +kernel, by decide +kernel, by decide +kernel, (by first | exact Or.inr (Or.inl ⟨rfl, rfl, by decide +kernel, by decide +kernel⟩) | exact Or.inr (Or.inr ⟨rfl, rfl, ⟨"FrameStreams", by decide +kernel⟩, by decide +kernel⟩))⟩
  · cases h; exact ⟨y_FrameStreams_requireState, b_FrameStreams_requireState, 1, none, 6, 89, 1, c_FrameStreams_requireState, by decide, by decide +kernel, by decide +kernel, by decide +kernel, (by first | exact Or.inr (Or.inl ⟨rfl, rfl, by decide +kernel, by decide +kernel⟩) | exact Or.inr (Or.inr ⟨rfl, rfl, ⟨"FrameStreams", by decide +kernel⟩, by decide +kernel⟩))⟩
  · cases h; exact ⟨y_End_maySend, b_End_maySend, 2, (some .boolean), 1, 21, 1, c_End_maySend, by decide, by decide +kernel, by decide +kernel, by decide +kernel, Or.inl ⟨rfl, by decide, by decide +kernel, by decide +kernel, _, _, rfl, by decide +kernel⟩⟩
  · cases h; exact ⟨y_End_sendByte, b_End_sendByte, 5, (some .int), 2, 45, 4, c_End_sendByte, by decide, by decide +kernel, by decide +kernel, by decide +kernel, Or.inl ⟨rfl, by decide, by decide +kernel, by decide +kernel, _, _, rfl, by decide +kernel⟩⟩
  · cases h
/-- FrameStreams_ping -/
def sp_FrameStreams_ping : CSp := sRII (fun q x0 x1 σ K kx => q.1 = 0 ∧ (rI x0 ∧ rI x1) ∧ IV σ ∧ pubK σ K ∧ pubX σ kx)
set_option maxHeartbeats 4000000 in
set_option maxRecDepth 100000 in
theorem c_FrameStreams_ping : Ctr y_FrameStreams_ping b_FrameStreams_ping 3 (some .int) 8 131 3 18 sp_FrameStreams_ping := by
  refine ctr_of (FT := ft_FrameStreams) (GT := gt_FrameStreams_ping) (CT := ct_FrameStreams_ping) (sw := sw_FrameStreams_ping) (rt := 0) (pr := pr_FrameStreams_ping) (by decide) [] (fun _ _ _ _ _ _ _ _ _ _ _ => False) 40 ⟨fun _ => rfl, fun h => absurd h (by decide), fun h => absurd h (by decide), fun h => absurd h (by decide)⟩ dk_FrameStreams_ping fo_FrameStreams go_FrameStreams_ping co_FrameStreams_ping (fun a k h hk => by unfold gt_FrameStreams_ping at h; cases h) (fun q hq h => absurd h (nt_FrameStreams_ping q hq)) (fun av σ K kx h => by rw [sRII_len h]; decide) ?_ ?_
  · intro av σ K kx hok hSp
    obtain ⟨q0, x0, x1, rfl, hp⟩ := sRII_inv hSp
    obtain ⟨k0, e0, i0⟩ := q0
    obtain ⟨h0, hr, hI, hpk, hpx⟩ := hp
    dsimp only at h0; subst h0
    simp only [rI] at hr
    all_goals (repeat' (first | (with_reducible assumption) | (with_reducible (apply by8_9; assumption)) | (with_reducible (apply by8_4; assumption)) | (with_reducible (apply by8_22; assumption)) | (with_reducible (apply by8_g; assumption)) | (with_reducible refine IV_upd ?_ ?_) | (with_reducible refine IV_cpy ?_ (fun _ _ _ _ => trivial)) | (refine And.intro ?_ ?_) | (intro _)))
    all_goals first | (refine pk hpk ?_ ?_ <;> (repeat' (first | assumption | exact trivial | exact Un_rf | (apply by8_4; assumption) | (apply by8_9; assumption) | (apply by8_22; assumption) | (apply by8_g; assumption) | (refine by8_13 ?_) | (apply rg34_of <;> assumption) | (refine rg_max ?_ ?_) | (apply rg_34; assumption) | (refine ixr_by8 ?_ ?_) | (refine IV_upd ?_ ?_) | (refine Un_upd rfl ?_) | (refine IV_cpy ?_ (fun _ _ _ _ => trivial)) | (refine Un_cpy rfl ?_) | (apply Un_tr; rotate_left; assumption; rfl) | (refine And.intro ?_ ?_))) <;> (first | rfl | decide | exact Or.inl rfl | exact Or.inr (Or.inl rfl) | exact Or.inr (Or.inr rfl) | (simp only [nrm, strm, by8] at * <;> omega) | (simp [upd4, cpy4, nrm, strm, by8] at * <;> omega))) | (refine px1 hpx ?_ ?_ <;> (repeat' (first | assumption | exact trivial | exact Un_rf | (apply by8_4; assumption) | (apply by8_9; assumption) | (apply by8_22; assumption) | (apply by8_g; assumption) | (refine by8_13 ?_) | (apply rg34_of <;> assumption) | (refine rg_max ?_ ?_) | (apply rg_34; assumption) | (refine ixr_by8 ?_ ?_) | (refine IV_upd ?_ ?_) | (refine Un_upd rfl ?_) | (refine IV_cpy ?_ (fun _ _ _ _ => trivial)) | (refine Un_cpy rfl ?_) | (apply Un_tr; rotate_left; assumption; rfl) | (refine And.intro ?_ ?_))) <;> (first | rfl | decide | exact Or.inl rfl | exact Or.inr (Or.inl rfl) | exact Or.inr (Or.inr rfl) | (simp only [nrm, strm, by8] at * <;> omega) | (simp [upd4, cpy4, nrm, strm, by8] at * <;> omega))) | (refine px2 hpx ?_ ?_ <;> (repeat' (first | assumption | exact trivial | exact Un_rf | (apply by8_4; assumption) | (apply by8_9; assumption) | (apply by8_22; assumption) | (apply by8_g; assumption) | (refine by8_13 ?_) | (apply rg34_of <;> assumption) | (refine rg_max ?_ ?_) | (apply rg_34; assumption) | (refine ixr_by8 ?_ ?_) | (refine IV_upd ?_ ?_) | (refine Un_upd rfl ?_) | (refine IV_cpy ?_ (fun _ _ _ _ => trivial)) | (refine Un_cpy rfl ?_) | (apply Un_tr; rotate_left; assumption; rfl) | (refine And.intro ?_ ?_))) <;> (first | rfl | decide | exact Or.inl rfl | exact Or.inr (Or.inl rfl) | exact Or.inr (Or.inr rfl) | (simp only [nrm, strm, by8] at * <;> omega) | (simp [upd4, cpy4, nrm, strm, by8] at * <;> omega))) | (refine px3 hpx ?_ ?_ <;> (repeat' (first | assumption | exact trivial | exact Un_rf | (apply by8_4; assumption) | (apply by8_9; assumption) | (apply by8_22; assumption) | (apply by8_g; assumption) | (refine by8_13 ?_) | (apply rg34_of <;> assumption) | (refine rg_max ?_ ?_) | (apply rg_34; assumption) | (refine ixr_by8 ?_ ?_) | (refine IV_upd ?_ ?_) | (refine Un_upd rfl ?_) | (refine IV_cpy ?_ (fun _ _ _ _ => trivial)) | (refine Un_cpy rfl ?_) | (apply Un_tr; rotate_left; assumption; rfl) | (refine And.intro ?_ ?_))) <;> (first | rfl | decide | exact Or.inl rfl | exact Or.inr (Or.inl rfl) | exact Or.inr (Or.inr rfl) | (simp only [nrm, strm, by8] at * <;> omega) | (simp [upd4, cpy4, nrm, strm, by8] at * <;> omega))) | (refine px4 hpx ?_ ?_ <;> (repeat' (first | assumption | exact trivial | exact Un_rf | (apply by8_4; assumption) | (apply by8_9; assumption) | (apply by8_22; assumption) | (apply by8_g; assumption) | (refine by8_13 ?_) | (apply rg34_of <;> assumption) | (refine rg_max ?_ ?_) | (apply rg_34; assumption) | (refine ixr_by8 ?_ ?_) | (refine IV_upd ?_ ?_) | (refine Un_upd rfl ?_) | (refine IV_cpy ?_ (fun _ _ _ _ => trivial)) | (refine Un_cpy rfl ?_) | (apply Un_tr; rotate_left; assumption; rfl) | (refine And.intro ?_ ?_))) <;> (first | rfl | decide | exact Or.inl rfl | exact Or.inr (Or.inl rfl) | exact Or.inr (Or.inr rfl) | (simp only [nrm, strm, by8] at * <;> omega) | (simp [upd4, cpy4, nrm, strm, by8] at * <;> omega))) | (first | rfl | decide | exact Or.inl rfl | exact Or.inr (Or.inl rfl) | exact Or.inr (Or.inr rfl) | (simp only [nrm, strm, by8] at * <;> omega) | (simp [upd4, cpy4, nrm, strm, by8] at * <;> omega)) | ((repeat' (first | assumption | exact trivial | exact Un_rf | (apply by8_4; assumption) | (apply by8_9; assumption) | (apply by8_22; assumption) | (apply by8_g; assumption) | (refine by8_13 ?_) | (apply rg34_of <;> assumption) | (refine rg_max ?_ ?_) | (apply rg_34; assumption) | (refine ixr_by8 ?_ ?_) | (refine IV_upd ?_ ?_) | (refine Un_upd rfl ?_) | (refine IV_cpy ?_ (fun _ _ _ _ => trivial)) | (refine Un_cpy rfl ?_) | (apply Un_tr; rotate_left; assumption; rfl) | (refine And.intro ?_ ?_))) <;> (first | rfl | decide | exact Or.inl rfl | exact Or.inr (Or.inl rfl) | exact Or.inr (Or.inr rfl) | (simp only [nrm, strm, by8] at * <;> omega) | (simp [upd4, cpy4, nrm, strm, by8] at * <;> omega)))
  · intro av σ K kx n pc L st σ' nc ns _ _ h
    exact (h : False).elim
def gt_FrameStreams_alter (a : Nat) : Option Nat := match a with
  | _ => none
theorem go_FrameStreams_alter : ∀ a v, gt_FrameStreams_alter a = some v → StaOK R_FrameStreams a v := by
  intro a v h
  unfold gt_FrameStreams_alter at h
  cases h
def pr_FrameStreams_alter : List Ent := [(0, 3, 1, 0, 0), (1, 0, 0, 0, 0), (2, 0, 0, 1, 0), (3, 47, 25, 0, 0), (6, 3, 2, 0, 0), (7, 28, 0, 0, 14), (10, 0, 0, 1, 0), (11, 38, 0, 0, 15), (14, 0, 0, 0, 0), (15, 47, 147, 0, 0), (18, 3, 3, 0, 0), (19, 0, 0, 0, 0), (20, 2, 0, 255, 0), (23, 47, 25, 0, 0), (26, 5, 0, 0, 0), (27, 39, 15, 0, 0), (30, 3, 1, 0, 0), (31, 43, 0, 0, 0), (32, 46, 119, 0, 0), (35, 10, 4, 0, 0), (37, 3, 2, 0, 0), (38, 6, 4, 0, 0), (40, 46, 123, 0, 0), (43, 35, 0, 0, 50), (46, 0, 0, 1, 0), (47, 38, 0, 0, 51), (50, 0, 0, 0, 0), (51, 47, 129, 0, 0), (54, 6, 4, 0, 0), (56, 3, 2, 0, 0), (57, 3, 3, 0, 0), (58, 46, 150, 0, 0), (61, 48, 0, 0, 0)]
def sw_FrameStreams_alter : List Swt := []
theorem dk_FrameStreams_alter : ∀ q ∈ pr_FrameStreams_alter, decode b_FrameStreams_alter q.1 = .ok (dec sw_FrameStreams_alter q) ∧ okE q = true := by decide +kernel
theorem nt_FrameStreams_alter : ∀ q ∈ pr_FrameStreams_alter, ¬ q.2.1 = 55 := by decide +kernel
def ct_FrameStreams_alter (a : Nat) : Option (Nat × Nat × CSp × Nat × Nat) := match a with
  | 25 => some (3, 1000, sp_FrameStreams_requireWithin, 1, 6)
  | 119 => some (1, 3, sp_End_coming, 0, 0)
  | 123 => some (1, 8, sp_Wire_count, 0, 0)
  | 129 => some (1, 1000, sp_FrameStreams_requireThere, 1, 6)
  | 147 => some (1, 1000, sp_FrameStreams_requireArgument, 1, 6)
  | 150 => some (3, 8, sp_Wire_flip, 0, 0)
  | _ => none
theorem co_FrameStreams_alter : ∀ a v, ct_FrameStreams_alter a = some v → StcOK R_FrameStreams 8 131 a v := by
  intro a v h
  unfold ct_FrameStreams_alter at h
  split at h
  · cases h; exact ⟨y_FrameStreams_requireWithin, b_FrameStreams_requireWithin, 3, none, 7, 109, 3, c_FrameStreams_requireWithin, by decide, by decide +kernel, by decide +kernel, by decide +kernel, (by first | exact Or.inr (Or.inl ⟨rfl, rfl, by decide +kernel, by decide +kernel⟩) | exact Or.inr (Or.inr ⟨rfl, rfl, ⟨"FrameStreams", by decide +kernel⟩, by decide +kernel⟩))⟩
  · cases h; exact ⟨y_End_coming, b_End_coming, 1, (some (.object "FrameStreams$Wire")), 0, 0, 0, c_End_coming, by decide, by decide +kernel, by decide +kernel, by decide +kernel, Or.inl ⟨rfl, by decide, by decide +kernel, by decide +kernel, _, _, rfl, by decide +kernel⟩⟩
  · cases h; exact ⟨y_Wire_count, b_Wire_count, 1, (some .int), 0, 0, 0, c_Wire_count, by decide, by decide +kernel, by decide +kernel, by decide +kernel, Or.inl ⟨rfl, by decide, by decide +kernel, by decide +kernel, _, _, rfl, by decide +kernel⟩⟩
  · cases h; exact ⟨y_FrameStreams_requireThere, b_FrameStreams_requireThere, 1, none, 6, 89, 1, c_FrameStreams_requireThere, by decide, by decide +kernel, by decide +kernel, by decide +kernel, (by first | exact Or.inr (Or.inl ⟨rfl, rfl, by decide +kernel, by decide +kernel⟩) | exact Or.inr (Or.inr ⟨rfl, rfl, ⟨"FrameStreams", by decide +kernel⟩, by decide +kernel⟩))⟩
  · cases h; exact ⟨y_FrameStreams_requireArgument, b_FrameStreams_requireArgument, 1, none, 6, 89, 1, c_FrameStreams_requireArgument, by decide, by decide +kernel, by decide +kernel, by decide +kernel, (by first | exact Or.inr (Or.inl ⟨rfl, rfl, by decide +kernel, by decide +kernel⟩) | exact Or.inr (Or.inr ⟨rfl, rfl, ⟨"FrameStreams", by decide +kernel⟩, by decide +kernel⟩))⟩
  · cases h; exact ⟨y_Wire_flip, b_Wire_flip, 4, (some .int), 0, 0, 2, c_Wire_flip, by decide, by decide +kernel, by decide +kernel, by decide +kernel, Or.inl ⟨rfl, by decide, by decide +kernel, by decide +kernel, _, _, rfl, by decide +kernel⟩⟩
  · cases h
/-- FrameStreams_alter -/
def sp_FrameStreams_alter : CSp := sRIII (fun q x0 x1 x2 σ K kx => q.1 = 0 ∧ (rI x0 ∧ rI x1 ∧ rI x2) ∧ IV σ ∧ pubK σ K ∧ pubX σ kx)
set_option maxHeartbeats 4000000 in
set_option maxRecDepth 100000 in
theorem c_FrameStreams_alter : Ctr y_FrameStreams_alter b_FrameStreams_alter 5 (some .int) 8 131 4 24 sp_FrameStreams_alter := by
  refine ctr_of (FT := ft_FrameStreams) (GT := gt_FrameStreams_alter) (CT := ct_FrameStreams_alter) (sw := sw_FrameStreams_alter) (rt := 0) (pr := pr_FrameStreams_alter) (by decide) [] (fun _ _ _ _ _ _ _ _ _ _ _ => False) 50 ⟨fun _ => rfl, fun h => absurd h (by decide), fun h => absurd h (by decide), fun h => absurd h (by decide)⟩ dk_FrameStreams_alter fo_FrameStreams go_FrameStreams_alter co_FrameStreams_alter (fun a k h hk => by unfold gt_FrameStreams_alter at h; cases h) (fun q hq h => absurd h (nt_FrameStreams_alter q hq)) (fun av σ K kx h => by rw [sRIII_len h]; decide) ?_ ?_
  · intro av σ K kx hok hSp
    obtain ⟨q0, x0, x1, x2, rfl, hp⟩ := sRIII_inv hSp
    obtain ⟨k0, e0, i0⟩ := q0
    obtain ⟨h0, hr, hI, hpk, hpx⟩ := hp
    dsimp only at h0; subst h0
    simp only [rI] at hr
    all_goals (repeat' (first | (with_reducible assumption) | (with_reducible (apply by8_9; assumption)) | (with_reducible (apply by8_4; assumption)) | (with_reducible (apply by8_22; assumption)) | (with_reducible (apply by8_g; assumption)) | (with_reducible refine IV_upd ?_ ?_) | (with_reducible refine IV_cpy ?_ (fun _ _ _ _ => trivial)) | (refine And.intro ?_ ?_) | (intro _)))
    all_goals first | (refine pk hpk ?_ ?_ <;> (repeat' (first | assumption | exact trivial | exact Un_rf | (apply by8_4; assumption) | (apply by8_9; assumption) | (apply by8_22; assumption) | (apply by8_g; assumption) | (refine by8_13 ?_) | (apply rg34_of <;> assumption) | (refine rg_max ?_ ?_) | (apply rg_34; assumption) | (refine ixr_by8 ?_ ?_) | (refine IV_upd ?_ ?_) | (refine Un_upd rfl ?_) | (refine IV_cpy ?_ (fun _ _ _ _ => trivial)) | (refine Un_cpy rfl ?_) | (apply Un_tr; rotate_left; assumption; rfl) | (refine And.intro ?_ ?_))) <;> (first | rfl | decide | exact Or.inl rfl | exact Or.inr (Or.inl rfl) | exact Or.inr (Or.inr rfl) | (simp only [nrm, strm, by8] at * <;> omega) | (simp [upd4, cpy4, nrm, strm, by8] at * <;> omega))) | (refine px1 hpx ?_ ?_ <;> (repeat' (first | assumption | exact trivial | exact Un_rf | (apply by8_4; assumption) | (apply by8_9; assumption) | (apply by8_22; assumption) | (apply by8_g; assumption) | (refine by8_13 ?_) | (apply rg34_of <;> assumption) | (refine rg_max ?_ ?_) | (apply rg_34; assumption) | (refine ixr_by8 ?_ ?_) | (refine IV_upd ?_ ?_) | (refine Un_upd rfl ?_) | (refine IV_cpy ?_ (fun _ _ _ _ => trivial)) | (refine Un_cpy rfl ?_) | (apply Un_tr; rotate_left; assumption; rfl) | (refine And.intro ?_ ?_))) <;> (first | rfl | decide | exact Or.inl rfl | exact Or.inr (Or.inl rfl) | exact Or.inr (Or.inr rfl) | (simp only [nrm, strm, by8] at * <;> omega) | (simp [upd4, cpy4, nrm, strm, by8] at * <;> omega))) | (refine px2 hpx ?_ ?_ <;> (repeat' (first | assumption | exact trivial | exact Un_rf | (apply by8_4; assumption) | (apply by8_9; assumption) | (apply by8_22; assumption) | (apply by8_g; assumption) | (refine by8_13 ?_) | (apply rg34_of <;> assumption) | (refine rg_max ?_ ?_) | (apply rg_34; assumption) | (refine ixr_by8 ?_ ?_) | (refine IV_upd ?_ ?_) | (refine Un_upd rfl ?_) | (refine IV_cpy ?_ (fun _ _ _ _ => trivial)) | (refine Un_cpy rfl ?_) | (apply Un_tr; rotate_left; assumption; rfl) | (refine And.intro ?_ ?_))) <;> (first | rfl | decide | exact Or.inl rfl | exact Or.inr (Or.inl rfl) | exact Or.inr (Or.inr rfl) | (simp only [nrm, strm, by8] at * <;> omega) | (simp [upd4, cpy4, nrm, strm, by8] at * <;> omega))) | (refine px3 hpx ?_ ?_ <;> (repeat' (first | assumption | exact trivial | exact Un_rf | (apply by8_4; assumption) | (apply by8_9; assumption) | (apply by8_22; assumption) | (apply by8_g; assumption) | (refine by8_13 ?_) | (apply rg34_of <;> assumption) | (refine rg_max ?_ ?_) | (apply rg_34; assumption) | (refine ixr_by8 ?_ ?_) | (refine IV_upd ?_ ?_) | (refine Un_upd rfl ?_) | (refine IV_cpy ?_ (fun _ _ _ _ => trivial)) | (refine Un_cpy rfl ?_) | (apply Un_tr; rotate_left; assumption; rfl) | (refine And.intro ?_ ?_))) <;> (first | rfl | decide | exact Or.inl rfl | exact Or.inr (Or.inl rfl) | exact Or.inr (Or.inr rfl) | (simp only [nrm, strm, by8] at * <;> omega) | (simp [upd4, cpy4, nrm, strm, by8] at * <;> omega))) | (refine px4 hpx ?_ ?_ <;> (repeat' (first | assumption | exact trivial | exact Un_rf | (apply by8_4; assumption) | (apply by8_9; assumption) | (apply by8_22; assumption) | (apply by8_g; assumption) | (refine by8_13 ?_) | (apply rg34_of <;> assumption) | (refine rg_max ?_ ?_) | (apply rg_34; assumption) | (refine ixr_by8 ?_ ?_) | (refine IV_upd ?_ ?_) | (refine Un_upd rfl ?_) | (refine IV_cpy ?_ (fun _ _ _ _ => trivial)) | (refine Un_cpy rfl ?_) | (apply Un_tr; rotate_left; assumption; rfl) | (refine And.intro ?_ ?_))) <;> (first | rfl | decide | exact Or.inl rfl | exact Or.inr (Or.inl rfl) | exact Or.inr (Or.inr rfl) | (simp only [nrm, strm, by8] at * <;> omega) | (simp [upd4, cpy4, nrm, strm, by8] at * <;> omega))) | (first | rfl | decide | exact Or.inl rfl | exact Or.inr (Or.inl rfl) | exact Or.inr (Or.inr rfl) | (simp only [nrm, strm, by8] at * <;> omega) | (simp [upd4, cpy4, nrm, strm, by8] at * <;> omega)) | ((repeat' (first | assumption | exact trivial | exact Un_rf | (apply by8_4; assumption) | (apply by8_9; assumption) | (apply by8_22; assumption) | (apply by8_g; assumption) | (refine by8_13 ?_) | (apply rg34_of <;> assumption) | (refine rg_max ?_ ?_) | (apply rg_34; assumption) | (refine ixr_by8 ?_ ?_) | (refine IV_upd ?_ ?_) | (refine Un_upd rfl ?_) | (refine IV_cpy ?_ (fun _ _ _ _ => trivial)) | (refine Un_cpy rfl ?_) | (apply Un_tr; rotate_left; assumption; rfl) | (refine And.intro ?_ ?_))) <;> (first | rfl | decide | exact Or.inl rfl | exact Or.inr (Or.inl rfl) | exact Or.inr (Or.inr rfl) | (simp only [nrm, strm, by8] at * <;> omega) | (simp [upd4, cpy4, nrm, strm, by8] at * <;> omega)))
  · intro av σ K kx n pc L st σ' nc ns _ _ h
    exact (h : False).elim
def gt_FrameStreams_stream (a : Nat) : Option Nat := match a with
  | _ => none
theorem go_FrameStreams_stream : ∀ a v, gt_FrameStreams_stream a = some v → StaOK R_FrameStreams a v := by
  intro a v h
  unfold gt_FrameStreams_stream at h
  cases h
def pr_FrameStreams_stream : List Ent := [(0, 3, 1, 0, 0), (1, 0, 0, 0, 0), (2, 0, 0, 1, 0), (3, 47, 25, 0, 0), (6, 3, 2, 0, 0), (7, 47, 61, 0, 0), (10, 3, 3, 0, 0), (11, 0, 0, 0, 0), (12, 0, 0, 5, 0), (13, 47, 25, 0, 0), (16, 3, 2, 0, 0), (17, 27, 0, 0, 30), (20, 3, 3, 0, 0), (21, 0, 0, 1, 0), (22, 32, 0, 0, 30), (25, 3, 3, 0, 0), (26, 0, 0, 2, 0), (27, 33, 0, 0, 34), (30, 0, 0, 1, 0), (31, 38, 0, 0, 35), (34, 0, 0, 0, 0), (35, 8, 4, 0, 0), (37, 4, 4, 0, 0), (39, 26, 0, 0, 59), (42, 5, 0, 0, 0), (43, 39, 15, 0, 0), (46, 3, 1, 0, 0), (47, 43, 0, 0, 0), (48, 3, 2, 0, 0), (49, 46, 68, 0, 0), (52, 3, 3, 0, 0), (53, 46, 153, 0, 0), (56, 38, 0, 0, 60), (59, 0, 0, 0, 0), (60, 48, 0, 0, 0)]
def sw_FrameStreams_stream : List Swt := []
theorem dk_FrameStreams_stream : ∀ q ∈ pr_FrameStreams_stream, decode b_FrameStreams_stream q.1 = .ok (dec sw_FrameStreams_stream q) ∧ okE q = true := by decide +kernel
theorem nt_FrameStreams_stream : ∀ q ∈ pr_FrameStreams_stream, ¬ q.2.1 = 55 := by decide +kernel
def ct_FrameStreams_stream (a : Nat) : Option (Nat × Nat × CSp × Nat × Nat) := match a with
  | 25 => some (3, 1000, sp_FrameStreams_requireWithin, 1, 6)
  | 61 => some (1, 1000, sp_FrameStreams_requireStreamOrConnection, 1, 6)
  | 68 => some (2, 3, sp_End_find, 0, 0)
  | 153 => some (2, 6, sp_Stream_tell, 0, 0)
  | _ => none
theorem co_FrameStreams_stream : ∀ a v, ct_FrameStreams_stream a = some v → StcOK R_FrameStreams 8 131 a v := by
  intro a v h
  unfold ct_FrameStreams_stream at h
  split at h
  · cases h; exact ⟨y_FrameStreams_requireWithin, b_FrameStreams_requireWithin, 3, none, 7, 109, 3, c_FrameStreams_requireWithin, by decide, by decide +kernel, by decide +kernel, by decide +kernel, (by first | exact Or.inr (Or.inl ⟨rfl, rfl, by decide +kernel, by decide +kernel⟩) | exact Or.inr (Or.inr ⟨rfl, rfl, ⟨"FrameStreams", by decide +kernel⟩, by decide +kernel⟩))⟩
  · cases h; exact ⟨y_FrameStreams_requireStreamOrConnection, b_FrameStreams_requireStreamOrConnection, 1, none, 7, 109, 1, c_FrameStreams_requireStreamOrConnection, by decide, by decide +kernel, by decide +kernel, by decide +kernel, (by first | exact Or.inr (Or.inl ⟨rfl, rfl, by decide +kernel, by decide +kernel⟩) | exact Or.inr (Or.inr ⟨rfl, rfl, ⟨"FrameStreams", by decide +kernel⟩, by decide +kernel⟩))⟩
  · cases h; exact ⟨y_End_find, b_End_find, 2, (some (.object "FrameStreams$Stream")), 1, 20, 1, c_End_find, by decide, by decide +kernel, by decide +kernel, by decide +kernel, Or.inl ⟨rfl, by decide, by decide +kernel, by decide +kernel, _, _, rfl, by decide +kernel⟩⟩
  · cases h; exact ⟨y_Stream_tell, b_Stream_tell, 2, (some .int), 1, 20, 1, c_Stream_tell, by decide, by decide +kernel, by decide +kernel, by decide +kernel, Or.inl ⟨rfl, by decide, by decide +kernel, by decide +kernel, _, _, rfl, by decide +kernel⟩⟩
  · cases h
/-- FrameStreams_stream -/
def sp_FrameStreams_stream : CSp := sRIII (fun q x0 x1 x2 σ K kx => q.1 = 0 ∧ (rI x0 ∧ rI x1 ∧ rI x2) ∧ IV σ ∧ pubK σ K ∧ pubX σ kx)
set_option maxHeartbeats 4000000 in
set_option maxRecDepth 100000 in
theorem c_FrameStreams_stream : Ctr y_FrameStreams_stream b_FrameStreams_stream 5 (some .int) 8 131 3 18 sp_FrameStreams_stream := by
  refine ctr_of (FT := ft_FrameStreams) (GT := gt_FrameStreams_stream) (CT := ct_FrameStreams_stream) (sw := sw_FrameStreams_stream) (rt := 0) (pr := pr_FrameStreams_stream) (by decide) [] (fun _ _ _ _ _ _ _ _ _ _ _ => False) 50 ⟨fun _ => rfl, fun h => absurd h (by decide), fun h => absurd h (by decide), fun h => absurd h (by decide)⟩ dk_FrameStreams_stream fo_FrameStreams go_FrameStreams_stream co_FrameStreams_stream (fun a k h hk => by unfold gt_FrameStreams_stream at h; cases h) (fun q hq h => absurd h (nt_FrameStreams_stream q hq)) (fun av σ K kx h => by rw [sRIII_len h]; decide) ?_ ?_
  · intro av σ K kx hok hSp
    obtain ⟨q0, x0, x1, x2, rfl, hp⟩ := sRIII_inv hSp
    obtain ⟨k0, e0, i0⟩ := q0
    obtain ⟨h0, hr, hI, hpk, hpx⟩ := hp
    dsimp only at h0; subst h0
    simp only [rI] at hr
    all_goals (repeat' (first | (with_reducible assumption) | (with_reducible (apply by8_9; assumption)) | (with_reducible (apply by8_4; assumption)) | (with_reducible (apply by8_22; assumption)) | (with_reducible (apply by8_g; assumption)) | (with_reducible refine IV_upd ?_ ?_) | (with_reducible refine IV_cpy ?_ (fun _ _ _ _ => trivial)) | (refine And.intro ?_ ?_) | (intro _)))
    all_goals first | (refine pk hpk ?_ ?_ <;> (repeat' (first | assumption | exact trivial | exact Un_rf | (apply by8_4; assumption) | (apply by8_9; assumption) | (apply by8_22; assumption) | (apply by8_g; assumption) | (refine by8_13 ?_) | (apply rg34_of <;> assumption) | (refine rg_max ?_ ?_) | (apply rg_34; assumption) | (refine ixr_by8 ?_ ?_) | (refine IV_upd ?_ ?_) | (refine Un_upd rfl ?_) | (refine IV_cpy ?_ (fun _ _ _ _ => trivial)) | (refine Un_cpy rfl ?_) | (apply Un_tr; rotate_left; assumption; rfl) | (refine And.intro ?_ ?_))) <;> (first | rfl | decide | exact Or.inl rfl | exact Or.inr (Or.inl rfl) | exact Or.inr (Or.inr rfl) | (simp only [nrm, strm, by8] at * <;> omega) | (simp [upd4, cpy4, nrm, strm, by8] at * <;> omega))) | (refine px1 hpx ?_ ?_ <;> (repeat' (first | assumption | exact trivial | exact Un_rf | (apply by8_4; assumption) | (apply by8_9; assumption) | (apply by8_22; assumption) | (apply by8_g; assumption) | (refine by8_13 ?_) | (apply rg34_of <;> assumption) | (refine rg_max ?_ ?_) | (apply rg_34; assumption) | (refine ixr_by8 ?_ ?_) | (refine IV_upd ?_ ?_) | (refine Un_upd rfl ?_) | (refine IV_cpy ?_ (fun _ _ _ _ => trivial)) | (refine Un_cpy rfl ?_) | (apply Un_tr; rotate_left; assumption; rfl) | (refine And.intro ?_ ?_))) <;> (first | rfl | decide | exact Or.inl rfl | exact Or.inr (Or.inl rfl) | exact Or.inr (Or.inr rfl) | (simp only [nrm, strm, by8] at * <;> omega) | (simp [upd4, cpy4, nrm, strm, by8] at * <;> omega))) | (refine px2 hpx ?_ ?_ <;> (repeat' (first | assumption | exact trivial | exact Un_rf | (apply by8_4; assumption) | (apply by8_9; assumption) | (apply by8_22; assumption) | (apply by8_g; assumption) | (refine by8_13 ?_) | (apply rg34_of <;> assumption) | (refine rg_max ?_ ?_) | (apply rg_34; assumption) | (refine ixr_by8 ?_ ?_) | (refine IV_upd ?_ ?_) | (refine Un_upd rfl ?_) | (refine IV_cpy ?_ (fun _ _ _ _ => trivial)) | (refine Un_cpy rfl ?_) | (apply Un_tr; rotate_left; assumption; rfl) | (refine And.intro ?_ ?_))) <;> (first | rfl | decide | exact Or.inl rfl | exact Or.inr (Or.inl rfl) | exact Or.inr (Or.inr rfl) | (simp only [nrm, strm, by8] at * <;> omega) | (simp [upd4, cpy4, nrm, strm, by8] at * <;> omega))) | (refine px3 hpx ?_ ?_ <;> (repeat' (first | assumption | exact trivial | exact Un_rf | (apply by8_4; assumption) | (apply by8_9; assumption) | (apply by8_22; assumption) | (apply by8_g; assumption) | (refine by8_13 ?_) | (apply rg34_of <;> assumption) | (refine rg_max ?_ ?_) | (apply rg_34; assumption) | (refine ixr_by8 ?_ ?_) | (refine IV_upd ?_ ?_) | (refine Un_upd rfl ?_) | (refine IV_cpy ?_ (fun _ _ _ _ => trivial)) | (refine Un_cpy rfl ?_) | (apply Un_tr; rotate_left; assumption; rfl) | (refine And.intro ?_ ?_))) <;> (first | rfl | decide | exact Or.inl rfl | exact Or.inr (Or.inl rfl) | exact Or.inr (Or.inr rfl) | (simp only [nrm, strm, by8] at * <;> omega) | (simp [upd4, cpy4, nrm, strm, by8] at * <;> omega))) | (refine px4 hpx ?_ ?_ <;> (repeat' (first | assumption | exact trivial | exact Un_rf | (apply by8_4; assumption) | (apply by8_9; assumption) | (apply by8_22; assumption) | (apply by8_g; assumption) | (refine by8_13 ?_) | (apply rg34_of <;> assumption) | (refine rg_max ?_ ?_) | (apply rg_34; assumption) | (refine ixr_by8 ?_ ?_) | (refine IV_upd ?_ ?_) | (refine Un_upd rfl ?_) | (refine IV_cpy ?_ (fun _ _ _ _ => trivial)) | (refine Un_cpy rfl ?_) | (apply Un_tr; rotate_left; assumption; rfl) | (refine And.intro ?_ ?_))) <;> (first | rfl | decide | exact Or.inl rfl | exact Or.inr (Or.inl rfl) | exact Or.inr (Or.inr rfl) | (simp only [nrm, strm, by8] at * <;> omega) | (simp [upd4, cpy4, nrm, strm, by8] at * <;> omega))) | (first | rfl | decide | exact Or.inl rfl | exact Or.inr (Or.inl rfl) | exact Or.inr (Or.inr rfl) | (simp only [nrm, strm, by8] at * <;> omega) | (simp [upd4, cpy4, nrm, strm, by8] at * <;> omega)) | ((repeat' (first | assumption | exact trivial | exact Un_rf | (apply by8_4; assumption) | (apply by8_9; assumption) | (apply by8_22; assumption) | (apply by8_g; assumption) | (refine by8_13 ?_) | (apply rg34_of <;> assumption) | (refine rg_max ?_ ?_) | (apply rg_34; assumption) | (refine ixr_by8 ?_ ?_) | (refine IV_upd ?_ ?_) | (refine Un_upd rfl ?_) | (refine IV_cpy ?_ (fun _ _ _ _ => trivial)) | (refine Un_cpy rfl ?_) | (apply Un_tr; rotate_left; assumption; rfl) | (refine And.intro ?_ ?_))) <;> (first | rfl | decide | exact Or.inl rfl | exact Or.inr (Or.inl rfl) | exact Or.inr (Or.inr rfl) | (simp only [nrm, strm, by8] at * <;> omega) | (simp [upd4, cpy4, nrm, strm, by8] at * <;> omega)))
  · intro av σ K kx n pc L st σ' nc ns _ _ h
    exact (h : False).elim
def gt_FrameStreams_end (a : Nat) : Option Nat := match a with
  | _ => none
theorem go_FrameStreams_end : ∀ a v, gt_FrameStreams_end a = some v → StaOK R_FrameStreams a v := by
  intro a v h
  unfold gt_FrameStreams_end at h
  cases h
def pr_FrameStreams_end : List Ent := [(0, 3, 1, 0, 0), (1, 0, 0, 0, 0), (2, 0, 0, 1, 0), (3, 47, 25, 0, 0), (6, 3, 2, 0, 0), (7, 0, 0, 0, 0), (8, 1, 0, 10, 0), (10, 47, 25, 0, 0), (13, 5, 0, 0, 0), (14, 39, 15, 0, 0), (17, 3, 1, 0, 0), (18, 43, 0, 0, 0), (19, 3, 2, 0, 0), (20, 46, 168, 0, 0), (23, 48, 0, 0, 0)]
def sw_FrameStreams_end : List Swt := []
theorem dk_FrameStreams_end : ∀ q ∈ pr_FrameStreams_end, decode b_FrameStreams_end q.1 = .ok (dec sw_FrameStreams_end q) ∧ okE q = true := by decide +kernel
theorem nt_FrameStreams_end : ∀ q ∈ pr_FrameStreams_end, ¬ q.2.1 = 55 := by decide +kernel
def ct_FrameStreams_end (a : Nat) : Option (Nat × Nat × CSp × Nat × Nat) := match a with
  | 25 => some (3, 1000, sp_FrameStreams_requireWithin, 1, 6)
  | 168 => some (2, 3, sp_End_tell, 0, 0)
  | _ => none
theorem co_FrameStreams_end : ∀ a v, ct_FrameStreams_end a = some v → StcOK R_FrameStreams 8 131 a v := by
  intro a v h
  unfold ct_FrameStreams_end at h
  split at h
  · cases h; exact ⟨y_FrameStreams_requireWithin, b_FrameStreams_requireWithin, 3, none, 7, 109, 3, c_FrameStreams_requireWithin, by decide, by decide +kernel, by decide +kernel, by decide +kernel, (by first | exact Or.inr (Or.inl ⟨rfl, rfl, by decide +kernel, by decide +kernel⟩) | exact Or.inr (Or.inr ⟨rfl, rfl, ⟨"FrameStreams", by decide +kernel⟩, by decide +kernel⟩))⟩
  · cases h; exact ⟨y_End_tell, b_End_tell, 2, (some .int), 3, 62, 1, c_End_tell, by decide, by decide +kernel, by decide +kernel, by decide +kernel, Or.inl ⟨rfl, by decide, by decide +kernel, by decide +kernel, _, _, rfl, by decide +kernel⟩⟩
  · cases h
/-- FrameStreams_end -/
def sp_FrameStreams_end : CSp := sRII (fun q x0 x1 σ K kx => q.1 = 0 ∧ (rI x0 ∧ rI x1) ∧ IV σ ∧ pubK σ K ∧ pubX σ kx)
set_option maxHeartbeats 4000000 in
set_option maxRecDepth 100000 in
theorem c_FrameStreams_end : Ctr y_FrameStreams_end b_FrameStreams_end 3 (some .int) 8 131 2 12 sp_FrameStreams_end := by
  refine ctr_of (FT := ft_FrameStreams) (GT := gt_FrameStreams_end) (CT := ct_FrameStreams_end) (sw := sw_FrameStreams_end) (rt := 0) (pr := pr_FrameStreams_end) (by decide) [] (fun _ _ _ _ _ _ _ _ _ _ _ => False) 30 ⟨fun _ => rfl, fun h => absurd h (by decide), fun h => absurd h (by decide), fun h => absurd h (by decide)⟩ dk_FrameStreams_end fo_FrameStreams go_FrameStreams_end co_FrameStreams_end (fun a k h hk => by unfold gt_FrameStreams_end at h; cases h) (fun q hq h => absurd h (nt_FrameStreams_end q hq)) (fun av σ K kx h => by rw [sRII_len h]; decide) ?_ ?_
  · intro av σ K kx hok hSp
    obtain ⟨q0, x0, x1, rfl, hp⟩ := sRII_inv hSp
    obtain ⟨k0, e0, i0⟩ := q0
    obtain ⟨h0, hr, hI, hpk, hpx⟩ := hp
    dsimp only at h0; subst h0
    simp only [rI] at hr
    all_goals (repeat' (first | (with_reducible assumption) | (with_reducible (apply by8_9; assumption)) | (with_reducible (apply by8_4; assumption)) | (with_reducible (apply by8_22; assumption)) | (with_reducible (apply by8_g; assumption)) | (with_reducible refine IV_upd ?_ ?_) | (with_reducible refine IV_cpy ?_ (fun _ _ _ _ => trivial)) | (refine And.intro ?_ ?_) | (intro _)))
    all_goals first | (refine pk hpk ?_ ?_ <;> (repeat' (first | assumption | exact trivial | exact Un_rf | (apply by8_4; assumption) | (apply by8_9; assumption) | (apply by8_22; assumption) | (apply by8_g; assumption) | (refine by8_13 ?_) | (apply rg34_of <;> assumption) | (refine rg_max ?_ ?_) | (apply rg_34; assumption) | (refine ixr_by8 ?_ ?_) | (refine IV_upd ?_ ?_) | (refine Un_upd rfl ?_) | (refine IV_cpy ?_ (fun _ _ _ _ => trivial)) | (refine Un_cpy rfl ?_) | (apply Un_tr; rotate_left; assumption; rfl) | (refine And.intro ?_ ?_))) <;> (first | rfl | decide | exact Or.inl rfl | exact Or.inr (Or.inl rfl) | exact Or.inr (Or.inr rfl) | (simp only [nrm, strm, by8] at * <;> omega) | (simp [upd4, cpy4, nrm, strm, by8] at * <;> omega))) | (refine px1 hpx ?_ ?_ <;> (repeat' (first | assumption | exact trivial | exact Un_rf | (apply by8_4; assumption) | (apply by8_9; assumption) | (apply by8_22; assumption) | (apply by8_g; assumption) | (refine by8_13 ?_) | (apply rg34_of <;> assumption) | (refine rg_max ?_ ?_) | (apply rg_34; assumption) | (refine ixr_by8 ?_ ?_) | (refine IV_upd ?_ ?_) | (refine Un_upd rfl ?_) | (refine IV_cpy ?_ (fun _ _ _ _ => trivial)) | (refine Un_cpy rfl ?_) | (apply Un_tr; rotate_left; assumption; rfl) | (refine And.intro ?_ ?_))) <;> (first | rfl | decide | exact Or.inl rfl | exact Or.inr (Or.inl rfl) | exact Or.inr (Or.inr rfl) | (simp only [nrm, strm, by8] at * <;> omega) | (simp [upd4, cpy4, nrm, strm, by8] at * <;> omega))) | (refine px2 hpx ?_ ?_ <;> (repeat' (first | assumption | exact trivial | exact Un_rf | (apply by8_4; assumption) | (apply by8_9; assumption) | (apply by8_22; assumption) | (apply by8_g; assumption) | (refine by8_13 ?_) | (apply rg34_of <;> assumption) | (refine rg_max ?_ ?_) | (apply rg_34; assumption) | (refine ixr_by8 ?_ ?_) | (refine IV_upd ?_ ?_) | (refine Un_upd rfl ?_) | (refine IV_cpy ?_ (fun _ _ _ _ => trivial)) | (refine Un_cpy rfl ?_) | (apply Un_tr; rotate_left; assumption; rfl) | (refine And.intro ?_ ?_))) <;> (first | rfl | decide | exact Or.inl rfl | exact Or.inr (Or.inl rfl) | exact Or.inr (Or.inr rfl) | (simp only [nrm, strm, by8] at * <;> omega) | (simp [upd4, cpy4, nrm, strm, by8] at * <;> omega))) | (refine px3 hpx ?_ ?_ <;> (repeat' (first | assumption | exact trivial | exact Un_rf | (apply by8_4; assumption) | (apply by8_9; assumption) | (apply by8_22; assumption) | (apply by8_g; assumption) | (refine by8_13 ?_) | (apply rg34_of <;> assumption) | (refine rg_max ?_ ?_) | (apply rg_34; assumption) | (refine ixr_by8 ?_ ?_) | (refine IV_upd ?_ ?_) | (refine Un_upd rfl ?_) | (refine IV_cpy ?_ (fun _ _ _ _ => trivial)) | (refine Un_cpy rfl ?_) | (apply Un_tr; rotate_left; assumption; rfl) | (refine And.intro ?_ ?_))) <;> (first | rfl | decide | exact Or.inl rfl | exact Or.inr (Or.inl rfl) | exact Or.inr (Or.inr rfl) | (simp only [nrm, strm, by8] at * <;> omega) | (simp [upd4, cpy4, nrm, strm, by8] at * <;> omega))) | (refine px4 hpx ?_ ?_ <;> (repeat' (first | assumption | exact trivial | exact Un_rf | (apply by8_4; assumption) | (apply by8_9; assumption) | (apply by8_22; assumption) | (apply by8_g; assumption) | (refine by8_13 ?_) | (apply rg34_of <;> assumption) | (refine rg_max ?_ ?_) | (apply rg_34; assumption) | (refine ixr_by8 ?_ ?_) | (refine IV_upd ?_ ?_) | (refine Un_upd rfl ?_) | (refine IV_cpy ?_ (fun _ _ _ _ => trivial)) | (refine Un_cpy rfl ?_) | (apply Un_tr; rotate_left; assumption; rfl) | (refine And.intro ?_ ?_))) <;> (first | rfl | decide | exact Or.inl rfl | exact Or.inr (Or.inl rfl) | exact Or.inr (Or.inr rfl) | (simp only [nrm, strm, by8] at * <;> omega) | (simp [upd4, cpy4, nrm, strm, by8] at * <;> omega))) | (first | rfl | decide | exact Or.inl rfl | exact Or.inr (Or.inl rfl) | exact Or.inr (Or.inr rfl) | (simp only [nrm, strm, by8] at * <;> omega) | (simp [upd4, cpy4, nrm, strm, by8] at * <;> omega)) | ((repeat' (first | assumption | exact trivial | exact Un_rf | (apply by8_4; assumption) | (apply by8_9; assumption) | (apply by8_22; assumption) | (apply by8_g; assumption) | (refine by8_13 ?_) | (apply rg34_of <;> assumption) | (refine rg_max ?_ ?_) | (apply rg_34; assumption) | (refine ixr_by8 ?_ ?_) | (refine IV_upd ?_ ?_) | (refine Un_upd rfl ?_) | (refine IV_cpy ?_ (fun _ _ _ _ => trivial)) | (refine Un_cpy rfl ?_) | (apply Un_tr; rotate_left; assumption; rfl) | (refine And.intro ?_ ?_))) <;> (first | rfl | decide | exact Or.inl rfl | exact Or.inr (Or.inl rfl) | exact Or.inr (Or.inr rfl) | (simp only [nrm, strm, by8] at * <;> omega) | (simp [upd4, cpy4, nrm, strm, by8] at * <;> omega)))
  · intro av σ K kx n pc L st σ' nc ns _ _ h
    exact (h : False).elim
end
section
def gt_FrameStreams_field (a : Nat) : Option Nat := match a with
  | _ => none
theorem go_FrameStreams_field : ∀ a v, gt_FrameStreams_field a = some v → StaOK R_FrameStreams a v := by
  intro a v h
  unfold gt_FrameStreams_field at h
  cases h
def pr_FrameStreams_field : List Ent := [(0, 3, 1, 0, 0), (1, 0, 0, 0, 0), (2, 0, 0, 1, 0), (3, 47, 25, 0, 0), (6, 3, 2, 0, 0), (7, 0, 0, 0, 0), (8, 1, 0, 7, 0), (10, 47, 25, 0, 0), (13, 3, 3, 0, 0), (14, 0, 0, 0, 0), (15, 1, 0, 7, 0), (17, 47, 25, 0, 0), (20, 5, 0, 0, 0), (21, 39, 15, 0, 0), (24, 3, 1, 0, 0), (25, 43, 0, 0, 0), (26, 46, 43, 0, 0), (29, 47, 35, 0, 0), (32, 5, 0, 0, 0), (33, 39, 9, 0, 0), (36, 3, 2, 0, 0), (37, 41, 0, 0, 0), (38, 26, 0, 0, 45), (41, 0, 0, 1, 0), (42, 38, 0, 0, 46), (45, 0, 0, 0, 0), (46, 47, 35, 0, 0), (49, 5, 0, 0, 0), (50, 39, 15, 0, 0), (53, 3, 1, 0, 0), (54, 43, 0, 0, 0), (55, 46, 47, 0, 0), (58, 10, 4, 0, 0), (60, 6, 4, 0, 0), (62, 46, 51, 0, 0), (65, 0, 0, 5, 0), (66, 35, 0, 0, 73), (69, 0, 0, 1, 0), (70, 38, 0, 0, 74), (73, 0, 0, 0, 0), (74, 47, 35, 0, 0), (77, 6, 4, 0, 0), (79, 5, 0, 0, 0), (80, 39, 9, 0, 0), (83, 3, 2, 0, 0), (84, 41, 0, 0, 0), (85, 5, 0, 0, 0), (86, 39, 9, 0, 0), (89, 3, 3, 0, 0), (90, 41, 0, 0, 0), (91, 46, 57, 0, 0), (94, 6, 4, 0, 0), (96, 46, 51, 0, 0), (99, 48, 0, 0, 0)]
def sw_FrameStreams_field : List Swt := []
theorem dk_FrameStreams_field : ∀ q ∈ pr_FrameStreams_field, decode b_FrameStreams_field q.1 = .ok (dec sw_FrameStreams_field q) ∧ okE q = true := by decide +kernel
theorem nt_FrameStreams_field : ∀ q ∈ pr_FrameStreams_field, ¬ q.2.1 = 55 := by decide +kernel
def ct_FrameStreams_field (a : Nat) : Option (Nat × Nat × CSp × Nat × Nat) := match a with
  | 25 => some (3, 1000, sp_FrameStreams_requireWithin, 1, 6)
  | 35 => some (1, 1000, sp_FrameStreams_requireState, 1, 6)
  | 43 => some (1, 3, sp_End_isUp, 0, 0)
  | 47 => some (1, 3, sp_End_list, 0, 0)
  | 51 => some (1, 4, sp_Fields_count, 0, 0)
  | 57 => some (3, 4, sp_Fields_add, 0, 0)
  | _ => none
theorem co_FrameStreams_field : ∀ a v, ct_FrameStreams_field a = some v → StcOK R_FrameStreams 8 131 a v := by
  intro a v h
  unfold ct_FrameStreams_field at h
  split at h
  · cases h; exact ⟨y_FrameStreams_requireWithin, b_FrameStreams_requireWithin, 3, none, 7, 109, 3, c_FrameStreams_requireWithin, by decide, by decide +kernel, by decide +kernel, by decide +kernel, (by first | exact Or.inr (Or.inl ⟨rfl, rfl, by decide +kernel, by decide +kernel⟩) | exact Or.inr (Or.inr ⟨rfl, rfl, ⟨"FrameStreams", by decide +kernel⟩, by decide +kernel⟩))⟩
  · cases h; exact ⟨y_FrameStreams_requireState, b_FrameStreams_requireState, 1, none, 6, 89, 1, c_FrameStreams_requireState, by decide, by decide +kernel, by decide +kernel, by decide +kernel, (by first | exact Or.inr (Or.inl ⟨rfl, rfl, by decide +kernel, by decide +kernel⟩) | exact Or.inr (Or.inr ⟨rfl, rfl, ⟨"FrameStreams", by decide +kernel⟩, by decide +kernel⟩))⟩
  · cases h; exact ⟨y_End_isUp, b_End_isUp, 1, (some .boolean), 0, 0, 0, c_End_isUp, by decide, by decide +kernel, by decide +kernel, by decide +kernel, Or.inl ⟨rfl, by decide, by decide +kernel, by decide +kernel, _, _, rfl, by decide +kernel⟩⟩
  · cases h; exact ⟨y_End_list, b_End_list, 1, (some (.object "FrameStreams$Fields")), 0, 0, 0, c_End_list, by decide, by decide +kernel, by decide +kernel, by decide +kernel, Or.inl ⟨rfl, by decide, by decide +kernel, by decide +kernel, _, _, rfl, by decide +kernel⟩⟩
  · cases h; exact ⟨y_Fields_count, b_Fields_count, 1, (some .int), 0, 0, 0, c_Fields_count, by decide, by decide +kernel, by decide +kernel, by decide +kernel, Or.inl ⟨rfl, by decide, by decide +kernel, by decide +kernel, _, _, rfl, by decide +kernel⟩⟩
  · cases h; exact ⟨y_Fields_add, b_Fields_add, 3, none, 0, 0, 2, c_Fields_add, by decide, by decide +kernel, by decide +kernel, by decide +kernel, Or.inl ⟨rfl, by decide, by decide +kernel, by decide +kernel, _, _, rfl, by decide +kernel⟩⟩
  · cases h
/-- FrameStreams_field -/
def sp_FrameStreams_field : CSp := sRIII (fun q x0 x1 x2 σ K kx => q.1 = 0 ∧ (rI x0 ∧ rI x1 ∧ rI x2) ∧ IV σ ∧ pubK σ K ∧ pubX σ kx)
set_option maxHeartbeats 4000000 in
set_option maxRecDepth 100000 in
theorem c_FrameStreams_field : Ctr y_FrameStreams_field b_FrameStreams_field 5 (some .int) 8 131 6 36 sp_FrameStreams_field := by
  refine ctr_of (FT := ft_FrameStreams) (GT := gt_FrameStreams_field) (CT := ct_FrameStreams_field) (sw := sw_FrameStreams_field) (rt := 0) (pr := pr_FrameStreams_field) (by decide) [] (fun _ _ _ _ _ _ _ _ _ _ _ => False) 70 ⟨fun _ => rfl, fun h => absurd h (by decide), fun h => absurd h (by decide), fun h => absurd h (by decide)⟩ dk_FrameStreams_field fo_FrameStreams go_FrameStreams_field co_FrameStreams_field (fun a k h hk => by unfold gt_FrameStreams_field at h; cases h) (fun q hq h => absurd h (nt_FrameStreams_field q hq)) (fun av σ K kx h => by rw [sRIII_len h]; decide) ?_ ?_
  · intro av σ K kx hok hSp
    obtain ⟨q0, x0, x1, x2, rfl, hp⟩ := sRIII_inv hSp
    obtain ⟨k0, e0, i0⟩ := q0
    obtain ⟨h0, hr, hI, hpk, hpx⟩ := hp
    dsimp only at h0; subst h0
    simp only [rI] at hr
    all_goals (repeat' (first | (with_reducible assumption) | (with_reducible (apply by8_9; assumption)) | (with_reducible (apply by8_4; assumption)) | (with_reducible (apply by8_22; assumption)) | (with_reducible (apply by8_g; assumption)) | (with_reducible (apply rg34_of <;> assumption)) | (with_reducible refine rg_max ?_ ?_) | (with_reducible refine IV_upd ?_ ?_) | (with_reducible refine IV_cpy ?_ (fun _ _ _ _ => trivial)) | (refine And.intro ?_ ?_) | (intro _)))
    all_goals first | (refine pk hpk ?_ ?_ <;> (repeat' (first | assumption | exact trivial | exact Un_rf | (apply by8_4; assumption) | (apply by8_9; assumption) | (apply by8_22; assumption) | (apply by8_g; assumption) | (refine by8_13 ?_) | (apply rg34_of <;> assumption) | (refine rg_max ?_ ?_) | (apply rg_34; assumption) | (refine ixr_by8 ?_ ?_) | (refine IV_upd ?_ ?_) | (refine Un_upd rfl ?_) | (refine IV_cpy ?_ (fun _ _ _ _ => trivial)) | (refine Un_cpy rfl ?_) | (apply Un_tr; rotate_left; assumption; rfl) | (refine And.intro ?_ ?_))) <;> (first | rfl | decide | exact Or.inl rfl | exact Or.inr (Or.inl rfl) | exact Or.inr (Or.inr rfl) | (simp only [nrm, strm, by8] at * <;> omega) | (simp [upd4, cpy4, nrm, strm, by8] at * <;> omega))) | (refine px1 hpx ?_ ?_ <;> (repeat' (first | assumption | exact trivial | exact Un_rf | (apply by8_4; assumption) | (apply by8_9; assumption) | (apply by8_22; assumption) | (apply by8_g; assumption) | (refine by8_13 ?_) | (apply rg34_of <;> assumption) | (refine rg_max ?_ ?_) | (apply rg_34; assumption) | (refine ixr_by8 ?_ ?_) | (refine IV_upd ?_ ?_) | (refine Un_upd rfl ?_) | (refine IV_cpy ?_ (fun _ _ _ _ => trivial)) | (refine Un_cpy rfl ?_) | (apply Un_tr; rotate_left; assumption; rfl) | (refine And.intro ?_ ?_))) <;> (first | rfl | decide | exact Or.inl rfl | exact Or.inr (Or.inl rfl) | exact Or.inr (Or.inr rfl) | (simp only [nrm, strm, by8] at * <;> omega) | (simp [upd4, cpy4, nrm, strm, by8] at * <;> omega))) | (refine px2 hpx ?_ ?_ <;> (repeat' (first | assumption | exact trivial | exact Un_rf | (apply by8_4; assumption) | (apply by8_9; assumption) | (apply by8_22; assumption) | (apply by8_g; assumption) | (refine by8_13 ?_) | (apply rg34_of <;> assumption) | (refine rg_max ?_ ?_) | (apply rg_34; assumption) | (refine ixr_by8 ?_ ?_) | (refine IV_upd ?_ ?_) | (refine Un_upd rfl ?_) | (refine IV_cpy ?_ (fun _ _ _ _ => trivial)) | (refine Un_cpy rfl ?_) | (apply Un_tr; rotate_left; assumption; rfl) | (refine And.intro ?_ ?_))) <;> (first | rfl | decide | exact Or.inl rfl | exact Or.inr (Or.inl rfl) | exact Or.inr (Or.inr rfl) | (simp only [nrm, strm, by8] at * <;> omega) | (simp [upd4, cpy4, nrm, strm, by8] at * <;> omega))) | (refine px3 hpx ?_ ?_ <;> (repeat' (first | assumption | exact trivial | exact Un_rf | (apply by8_4; assumption) | (apply by8_9; assumption) | (apply by8_22; assumption) | (apply by8_g; assumption) | (refine by8_13 ?_) | (apply rg34_of <;> assumption) | (refine rg_max ?_ ?_) | (apply rg_34; assumption) | (refine ixr_by8 ?_ ?_) | (refine IV_upd ?_ ?_) | (refine Un_upd rfl ?_) | (refine IV_cpy ?_ (fun _ _ _ _ => trivial)) | (refine Un_cpy rfl ?_) | (apply Un_tr; rotate_left; assumption; rfl) | (refine And.intro ?_ ?_))) <;> (first | rfl | decide | exact Or.inl rfl | exact Or.inr (Or.inl rfl) | exact Or.inr (Or.inr rfl) | (simp only [nrm, strm, by8] at * <;> omega) | (simp [upd4, cpy4, nrm, strm, by8] at * <;> omega))) | (refine px4 hpx ?_ ?_ <;> (repeat' (first | assumption | exact trivial | exact Un_rf | (apply by8_4; assumption) | (apply by8_9; assumption) | (apply by8_22; assumption) | (apply by8_g; assumption) | (refine by8_13 ?_) | (apply rg34_of <;> assumption) | (refine rg_max ?_ ?_) | (apply rg_34; assumption) | (refine ixr_by8 ?_ ?_) | (refine IV_upd ?_ ?_) | (refine Un_upd rfl ?_) | (refine IV_cpy ?_ (fun _ _ _ _ => trivial)) | (refine Un_cpy rfl ?_) | (apply Un_tr; rotate_left; assumption; rfl) | (refine And.intro ?_ ?_))) <;> (first | rfl | decide | exact Or.inl rfl | exact Or.inr (Or.inl rfl) | exact Or.inr (Or.inr rfl) | (simp only [nrm, strm, by8] at * <;> omega) | (simp [upd4, cpy4, nrm, strm, by8] at * <;> omega))) | (first | rfl | decide | exact Or.inl rfl | exact Or.inr (Or.inl rfl) | exact Or.inr (Or.inr rfl) | (simp only [nrm, strm, by8] at * <;> omega) | (simp [upd4, cpy4, nrm, strm, by8] at * <;> omega)) | ((repeat' (first | assumption | exact trivial | exact Un_rf | (apply by8_4; assumption) | (apply by8_9; assumption) | (apply by8_22; assumption) | (apply by8_g; assumption) | (refine by8_13 ?_) | (apply rg34_of <;> assumption) | (refine rg_max ?_ ?_) | (apply rg_34; assumption) | (refine ixr_by8 ?_ ?_) | (refine IV_upd ?_ ?_) | (refine Un_upd rfl ?_) | (refine IV_cpy ?_ (fun _ _ _ _ => trivial)) | (refine Un_cpy rfl ?_) | (apply Un_tr; rotate_left; assumption; rfl) | (refine And.intro ?_ ?_))) <;> (first | rfl | decide | exact Or.inl rfl | exact Or.inr (Or.inl rfl) | exact Or.inr (Or.inr rfl) | (simp only [nrm, strm, by8] at * <;> omega) | (simp [upd4, cpy4, nrm, strm, by8] at * <;> omega)))
  · intro av σ K kx n pc L st σ' nc ns _ _ h
    exact (h : False).elim
def gt_FrameStreams_reset (a : Nat) : Option Nat := match a with
  | _ => none
theorem go_FrameStreams_reset : ∀ a v, gt_FrameStreams_reset a = some v → StaOK R_FrameStreams a v := by
  intro a v h
  unfold gt_FrameStreams_reset at h
  cases h
def pr_FrameStreams_reset : List Ent := [(0, 3, 1, 0, 0), (1, 0, 0, 0, 0), (2, 0, 0, 1, 0), (3, 47, 25, 0, 0), (6, 3, 2, 0, 0), (7, 47, 84, 0, 0), (10, 3, 3, 0, 0), (11, 0, 0, 0, 0), (12, 2, 0, 255, 0), (15, 47, 25, 0, 0), (18, 5, 0, 0, 0), (19, 39, 15, 0, 0), (22, 3, 1, 0, 0), (23, 43, 0, 0, 0), (24, 10, 4, 0, 0), (26, 6, 4, 0, 0), (28, 0, 0, 1, 0), (29, 46, 87, 0, 0), (32, 47, 35, 0, 0), (35, 6, 4, 0, 0), (37, 3, 2, 0, 0), (38, 46, 68, 0, 0), (41, 46, 97, 0, 0), (44, 47, 35, 0, 0), (47, 6, 4, 0, 0), (49, 3, 2, 0, 0), (50, 3, 3, 0, 0), (51, 46, 110, 0, 0), (54, 24, 0, 0, 0), (55, 0, 0, 0, 0), (56, 48, 0, 0, 0)]
def sw_FrameStreams_reset : List Swt := []
theorem dk_FrameStreams_reset : ∀ q ∈ pr_FrameStreams_reset, decode b_FrameStreams_reset q.1 = .ok (dec sw_FrameStreams_reset q) ∧ okE q = true := by decide +kernel
theorem nt_FrameStreams_reset : ∀ q ∈ pr_FrameStreams_reset, ¬ q.2.1 = 55 := by decide +kernel
def ct_FrameStreams_reset (a : Nat) : Option (Nat × Nat × CSp × Nat × Nat) := match a with
  | 25 => some (3, 1000, sp_FrameStreams_requireWithin, 1, 6)
  | 35 => some (1, 1000, sp_FrameStreams_requireState, 1, 6)
  | 68 => some (2, 3, sp_End_find, 0, 0)
  | 84 => some (1, 1000, sp_FrameStreams_requireStream, 1, 6)
  | 87 => some (2, 3, sp_End_maySend, 0, 0)
  | 97 => some (1, 6, sp_Stream_isLive, 0, 0)
  | 110 => some (3, 3, sp_End_closeBy, 0, 0)
  | _ => none
theorem co_FrameStreams_reset : ∀ a v, ct_FrameStreams_reset a = some v → StcOK R_FrameStreams 8 131 a v := by
  intro a v h
  unfold ct_FrameStreams_reset at h
  split at h
  · cases h; exact ⟨y_FrameStreams_requireWithin, b_FrameStreams_requireWithin, 3, none, 7, 109, 3, c_FrameStreams_requireWithin, by decide, by decide +kernel, by decide +kernel, by decide +kernel, (by first | exact Or.inr (Or.inl ⟨rfl, rfl, by decide +kernel, by decide +kernel⟩) | exact Or.inr (Or.inr ⟨rfl, rfl, ⟨"FrameStreams", by decide +kernel⟩, by decide +kernel⟩))⟩
  · cases h; exact ⟨y_FrameStreams_requireState, b_FrameStreams_requireState, 1, none, 6, 89, 1, c_FrameStreams_requireState, by decide, by decide +kernel, by decide +kernel, by decide +kernel, (by first | exact Or.inr (Or.inl ⟨rfl, rfl, by decide +kernel, by decide +kernel⟩) | exact Or.inr (Or.inr ⟨rfl, rfl, ⟨"FrameStreams", by decide +kernel⟩, by decide +kernel⟩))⟩
  · cases h; exact ⟨y_End_find, b_End_find, 2, (some (.object "FrameStreams$Stream")), 1, 20, 1, c_End_find, by decide, by decide +kernel, by decide +kernel, by decide +kernel, Or.inl ⟨rfl, by decide, by decide +kernel, by decide +kernel, _, _, rfl, by decide +kernel⟩⟩
  · cases h; exact ⟨y_FrameStreams_requireStream, b_FrameStreams_requireStream, 1, none, 7, 109, 1, c_FrameStreams_requireStream, by decide, by decide +kernel, by decide +kernel, by decide +kernel, (by first | exact Or.inr (Or.inl ⟨rfl, rfl, by decide +kernel, by decide +kernel⟩) | exact Or.inr (Or.inr ⟨rfl, rfl, ⟨"FrameStreams", by decide +kernel⟩, by decide +kernel⟩))⟩
  · cases h; exact ⟨y_End_maySend, b_End_maySend, 2, (some .boolean), 1, 21, 1, c_End_maySend, by decide, by decide +kernel, by decide +kernel, by decide +kernel, Or.inl ⟨rfl, by decide, by decide +kernel, by decide +kernel, _, _, rfl, by decide +kernel⟩⟩
  · cases h; exact ⟨y_Stream_isLive, b_Stream_isLive, 1, (some .boolean), 1, 20, 0, c_Stream_isLive, by decide, by decide +kernel, by decide +kernel, by decide +kernel, Or.inl ⟨rfl, by decide, by decide +kernel, by decide +kernel, _, _, rfl, by decide +kernel⟩⟩
  · cases h; exact ⟨y_End_closeBy, b_End_closeBy, 3, (some .int), 3, 69, 2, c_End_closeBy, by decide, by decide +kernel, by decide +kernel, by decide +kernel, Or.inl ⟨rfl, by decide, by decide +kernel, by decide +kernel, _, _, rfl, by decide +kernel⟩⟩
  · cases h
/-- FrameStreams_reset -/
def sp_FrameStreams_reset : CSp := sRIII (fun q x0 x1 x2 σ K kx => q.1 = 0 ∧ (rI x0 ∧ rI x1 ∧ rI x2) ∧ IV σ ∧ pubK σ K ∧ pubX σ kx)
set_option maxHeartbeats 4000000 in
set_option maxRecDepth 100000 in
theorem c_FrameStreams_reset : Ctr y_FrameStreams_reset b_FrameStreams_reset 5 (some .int) 8 131 5 30 sp_FrameStreams_reset := by
  refine ctr_of (FT := ft_FrameStreams) (GT := gt_FrameStreams_reset) (CT := ct_FrameStreams_reset) (sw := sw_FrameStreams_reset) (rt := 0) (pr := pr_FrameStreams_reset) (by decide) [] (fun _ _ _ _ _ _ _ _ _ _ _ => False) 50 ⟨fun _ => rfl, fun h => absurd h (by decide), fun h => absurd h (by decide), fun h => absurd h (by decide)⟩ dk_FrameStreams_reset fo_FrameStreams go_FrameStreams_reset co_FrameStreams_reset (fun a k h hk => by unfold gt_FrameStreams_reset at h; cases h) (fun q hq h => absurd h (nt_FrameStreams_reset q hq)) (fun av σ K kx h => by rw [sRIII_len h]; decide) ?_ ?_
  · intro av σ K kx hok hSp
    obtain ⟨q0, x0, x1, x2, rfl, hp⟩ := sRIII_inv hSp
    obtain ⟨k0, e0, i0⟩ := q0
    obtain ⟨h0, hr, hI, hpk, hpx⟩ := hp
    dsimp only at h0; subst h0
    simp only [rI] at hr
    all_goals (repeat' (first | (with_reducible assumption) | (with_reducible (apply by8_9; assumption)) | (with_reducible (apply by8_4; assumption)) | (with_reducible (apply by8_22; assumption)) | (with_reducible (apply by8_g; assumption)) | (with_reducible (apply rg34_of <;> assumption)) | (with_reducible refine rg_max ?_ ?_) | (with_reducible refine IV_upd ?_ ?_) | (with_reducible refine IV_cpy ?_ (fun _ _ _ _ => trivial)) | (refine And.intro ?_ ?_) | (intro _)))
    all_goals first | (refine pk hpk ?_ ?_ <;> (repeat' (first | assumption | exact trivial | exact Un_rf | (apply by8_4; assumption) | (apply by8_9; assumption) | (apply by8_22; assumption) | (apply by8_g; assumption) | (refine by8_13 ?_) | (apply rg34_of <;> assumption) | (refine rg_max ?_ ?_) | (apply rg_34; assumption) | (refine ixr_by8 ?_ ?_) | (refine IV_upd ?_ ?_) | (refine Un_upd rfl ?_) | (refine IV_cpy ?_ (fun _ _ _ _ => trivial)) | (refine Un_cpy rfl ?_) | (apply Un_tr; rotate_left; assumption; rfl) | (refine And.intro ?_ ?_))) <;> (first | rfl | decide | exact Or.inl rfl | exact Or.inr (Or.inl rfl) | exact Or.inr (Or.inr rfl) | (simp only [nrm, strm, by8] at * <;> omega) | (simp [upd4, cpy4, nrm, strm, by8] at * <;> omega))) | (refine px1 hpx ?_ ?_ <;> (repeat' (first | assumption | exact trivial | exact Un_rf | (apply by8_4; assumption) | (apply by8_9; assumption) | (apply by8_22; assumption) | (apply by8_g; assumption) | (refine by8_13 ?_) | (apply rg34_of <;> assumption) | (refine rg_max ?_ ?_) | (apply rg_34; assumption) | (refine ixr_by8 ?_ ?_) | (refine IV_upd ?_ ?_) | (refine Un_upd rfl ?_) | (refine IV_cpy ?_ (fun _ _ _ _ => trivial)) | (refine Un_cpy rfl ?_) | (apply Un_tr; rotate_left; assumption; rfl) | (refine And.intro ?_ ?_))) <;> (first | rfl | decide | exact Or.inl rfl | exact Or.inr (Or.inl rfl) | exact Or.inr (Or.inr rfl) | (simp only [nrm, strm, by8] at * <;> omega) | (simp [upd4, cpy4, nrm, strm, by8] at * <;> omega))) | (refine px2 hpx ?_ ?_ <;> (repeat' (first | assumption | exact trivial | exact Un_rf | (apply by8_4; assumption) | (apply by8_9; assumption) | (apply by8_22; assumption) | (apply by8_g; assumption) | (refine by8_13 ?_) | (apply rg34_of <;> assumption) | (refine rg_max ?_ ?_) | (apply rg_34; assumption) | (refine ixr_by8 ?_ ?_) | (refine IV_upd ?_ ?_) | (refine Un_upd rfl ?_) | (refine IV_cpy ?_ (fun _ _ _ _ => trivial)) | (refine Un_cpy rfl ?_) | (apply Un_tr; rotate_left; assumption; rfl) | (refine And.intro ?_ ?_))) <;> (first | rfl | decide | exact Or.inl rfl | exact Or.inr (Or.inl rfl) | exact Or.inr (Or.inr rfl) | (simp only [nrm, strm, by8] at * <;> omega) | (simp [upd4, cpy4, nrm, strm, by8] at * <;> omega))) | (refine px3 hpx ?_ ?_ <;> (repeat' (first | assumption | exact trivial | exact Un_rf | (apply by8_4; assumption) | (apply by8_9; assumption) | (apply by8_22; assumption) | (apply by8_g; assumption) | (refine by8_13 ?_) | (apply rg34_of <;> assumption) | (refine rg_max ?_ ?_) | (apply rg_34; assumption) | (refine ixr_by8 ?_ ?_) | (refine IV_upd ?_ ?_) | (refine Un_upd rfl ?_) | (refine IV_cpy ?_ (fun _ _ _ _ => trivial)) | (refine Un_cpy rfl ?_) | (apply Un_tr; rotate_left; assumption; rfl) | (refine And.intro ?_ ?_))) <;> (first | rfl | decide | exact Or.inl rfl | exact Or.inr (Or.inl rfl) | exact Or.inr (Or.inr rfl) | (simp only [nrm, strm, by8] at * <;> omega) | (simp [upd4, cpy4, nrm, strm, by8] at * <;> omega))) | (refine px4 hpx ?_ ?_ <;> (repeat' (first | assumption | exact trivial | exact Un_rf | (apply by8_4; assumption) | (apply by8_9; assumption) | (apply by8_22; assumption) | (apply by8_g; assumption) | (refine by8_13 ?_) | (apply rg34_of <;> assumption) | (refine rg_max ?_ ?_) | (apply rg_34; assumption) | (refine ixr_by8 ?_ ?_) | (refine IV_upd ?_ ?_) | (refine Un_upd rfl ?_) | (refine IV_cpy ?_ (fun _ _ _ _ => trivial)) | (refine Un_cpy rfl ?_) | (apply Un_tr; rotate_left; assumption; rfl) | (refine And.intro ?_ ?_))) <;> (first | rfl | decide | exact Or.inl rfl | exact Or.inr (Or.inl rfl) | exact Or.inr (Or.inr rfl) | (simp only [nrm, strm, by8] at * <;> omega) | (simp [upd4, cpy4, nrm, strm, by8] at * <;> omega))) | (first | rfl | decide | exact Or.inl rfl | exact Or.inr (Or.inl rfl) | exact Or.inr (Or.inr rfl) | (simp only [nrm, strm, by8] at * <;> omega) | (simp [upd4, cpy4, nrm, strm, by8] at * <;> omega)) | ((repeat' (first | assumption | exact trivial | exact Un_rf | (apply by8_4; assumption) | (apply by8_9; assumption) | (apply by8_22; assumption) | (apply by8_g; assumption) | (refine by8_13 ?_) | (apply rg34_of <;> assumption) | (refine rg_max ?_ ?_) | (apply rg_34; assumption) | (refine ixr_by8 ?_ ?_) | (refine IV_upd ?_ ?_) | (refine Un_upd rfl ?_) | (refine IV_cpy ?_ (fun _ _ _ _ => trivial)) | (refine Un_cpy rfl ?_) | (apply Un_tr; rotate_left; assumption; rfl) | (refine And.intro ?_ ?_))) <;> (first | rfl | decide | exact Or.inl rfl | exact Or.inr (Or.inl rfl) | exact Or.inr (Or.inr rfl) | (simp only [nrm, strm, by8] at * <;> omega) | (simp [upd4, cpy4, nrm, strm, by8] at * <;> omega)))
  · intro av σ K kx n pc L st σ' nc ns _ _ h
    exact (h : False).elim
def gt_FrameStreams_setting (a : Nat) : Option Nat := match a with
  | 113 => some 201
  | _ => none
theorem go_FrameStreams_setting : ∀ a v, gt_FrameStreams_setting a = some v → StaOK R_FrameStreams a v := by
  intro a v h
  unfold gt_FrameStreams_setting at h
  split at h
  · cases h; exact ⟨fun h => absurd h (by decide), fun h => absurd h (by decide), fun h => absurd h (by decide), fun _ => ⟨_, _, List.mem_of_getElem? (i := 1) rfl, by first | exact Or.inl (by decide +kernel) | exact Or.inr ⟨"FrameStreams", by decide +kernel⟩⟩⟩
  · cases h
def pr_FrameStreams_setting : List Ent := [(0, 3, 1, 0, 0), (1, 0, 0, 0, 0), (2, 0, 0, 1, 0), (3, 47, 25, 0, 0), (6, 3, 2, 0, 0), (7, 0, 0, 0, 0), (8, 0, 0, 2, 0), (9, 47, 25, 0, 0), (12, 3, 3, 0, 0), (13, 0, 0, 0, 0), (14, 45, 113, 0, 0), (17, 3, 2, 0, 0), (18, 41, 0, 0, 0), (19, 47, 25, 0, 0), (22, 5, 0, 0, 0), (23, 39, 15, 0, 0), (26, 3, 1, 0, 0), (27, 43, 0, 0, 0), (28, 0, 0, 2, 0), (29, 46, 87, 0, 0), (32, 47, 35, 0, 0), (35, 5, 0, 0, 0), (36, 39, 15, 0, 0), (39, 3, 1, 0, 0), (40, 43, 0, 0, 0), (41, 3, 2, 0, 0), (42, 3, 3, 0, 0), (43, 46, 116, 0, 0), (46, 48, 0, 0, 0)]
def sw_FrameStreams_setting : List Swt := []
theorem dk_FrameStreams_setting : ∀ q ∈ pr_FrameStreams_setting, decode b_FrameStreams_setting q.1 = .ok (dec sw_FrameStreams_setting q) ∧ okE q = true := by decide +kernel
theorem nt_FrameStreams_setting : ∀ q ∈ pr_FrameStreams_setting, ¬ q.2.1 = 55 := by decide +kernel
def ct_FrameStreams_setting (a : Nat) : Option (Nat × Nat × CSp × Nat × Nat) := match a with
  | 25 => some (3, 1000, sp_FrameStreams_requireWithin, 1, 6)
  | 35 => some (1, 1000, sp_FrameStreams_requireState, 1, 6)
  | 87 => some (2, 3, sp_End_maySend, 0, 0)
  | 116 => some (3, 3, sp_End_changeOwn, 0, 0)
  | _ => none
theorem co_FrameStreams_setting : ∀ a v, ct_FrameStreams_setting a = some v → StcOK R_FrameStreams 8 131 a v := by
  intro a v h
  unfold ct_FrameStreams_setting at h
  split at h
  · cases h; exact ⟨y_FrameStreams_requireWithin, b_FrameStreams_requireWithin, 3, none, 7, 109, 3, c_FrameStreams_requireWithin, by decide, by decide +kernel, by decide +kernel, by decide +kernel, (by first | exact Or.inr (Or.inl ⟨rfl, rfl, by decide +kernel, by decide +kernel⟩) | exact Or.inr (Or.inr ⟨rfl, rfl, ⟨"FrameStreams", by decide +kernel⟩, by decide +kernel⟩))⟩
  · cases h; exact ⟨y_FrameStreams_requireState, b_FrameStreams_requireState, 1, none, 6, 89, 1, c_FrameStreams_requireState, by decide, by decide +kernel, by decide +kernel, by decide +kernel, (by first | exact Or.inr (Or.inl ⟨rfl, rfl, by decide +kernel, by decide +kernel⟩) | exact Or.inr (Or.inr ⟨rfl, rfl, ⟨"FrameStreams", by decide +kernel⟩, by decide +kernel⟩))⟩
  · cases h; exact ⟨y_End_maySend, b_End_maySend, 2, (some .boolean), 1, 21, 1, c_End_maySend, by decide, by decide +kernel, by decide +kernel, by decide +kernel, Or.inl ⟨rfl, by decide, by decide +kernel, by decide +kernel, _, _, rfl, by decide +kernel⟩⟩
  · cases h; exact ⟨y_End_changeOwn, b_End_changeOwn, 4, (some .int), 3, 68, 2, c_End_changeOwn, by decide, by decide +kernel, by decide +kernel, by decide +kernel, Or.inl ⟨rfl, by decide, by decide +kernel, by decide +kernel, _, _, rfl, by decide +kernel⟩⟩
  · cases h
/-- FrameStreams_setting -/
def sp_FrameStreams_setting : CSp := sRIII (fun q x0 x1 x2 σ K kx => q.1 = 0 ∧ (rI x0 ∧ rI x1 ∧ rI x2) ∧ IV σ ∧ pubK σ K ∧ pubX σ kx)
set_option maxHeartbeats 4000000 in
set_option maxRecDepth 100000 in
theorem c_FrameStreams_setting : Ctr y_FrameStreams_setting b_FrameStreams_setting 4 (some .int) 8 131 4 24 sp_FrameStreams_setting := by
  refine ctr_of (FT := ft_FrameStreams) (GT := gt_FrameStreams_setting) (CT := ct_FrameStreams_setting) (sw := sw_FrameStreams_setting) (rt := 0) (pr := pr_FrameStreams_setting) (by decide) [] (fun _ _ _ _ _ _ _ _ _ _ _ => False) 40 ⟨fun _ => rfl, fun h => absurd h (by decide), fun h => absurd h (by decide), fun h => absurd h (by decide)⟩ dk_FrameStreams_setting fo_FrameStreams go_FrameStreams_setting co_FrameStreams_setting (fun a k h hk => by unfold gt_FrameStreams_setting at h; split at h <;> first | exact ⟨by decide, by decide⟩ | (cases h; done) | (cases h; exact absurd hk (by decide))) (fun q hq h => absurd h (nt_FrameStreams_setting q hq)) (fun av σ K kx h => by rw [sRIII_len h]; decide) ?_ ?_
  · intro av σ K kx hok hSp
    obtain ⟨q0, x0, x1, x2, rfl, hp⟩ := sRIII_inv hSp
    obtain ⟨k0, e0, i0⟩ := q0
    obtain ⟨h0, hr, hI, hpk, hpx⟩ := hp
    dsimp only at h0; subst h0
    simp only [rI] at hr
    have s1 := sv201 (nrm x1).toNat
    all_goals (repeat' (first | (with_reducible assumption) | (with_reducible (apply by8_9; assumption)) | (with_reducible (apply by8_4; assumption)) | (with_reducible (apply by8_22; assumption)) | (with_reducible (apply by8_g; assumption)) | (with_reducible (apply rg34_of <;> assumption)) | (with_reducible refine rg_max ?_ ?_) | (with_reducible refine IV_upd ?_ ?_) | (with_reducible refine IV_cpy ?_ (fun _ _ _ _ => trivial)) | (refine And.intro ?_ ?_) | (intro _)))
    all_goals first | (refine pk hpk ?_ ?_ <;> (repeat' (first | assumption | exact trivial | exact Un_rf | (apply by8_4; assumption) | (apply by8_9; assumption) | (apply by8_22; assumption) | (apply by8_g; assumption) | (refine by8_13 ?_) | (apply rg34_of <;> assumption) | (refine rg_max ?_ ?_) | (apply rg_34; assumption) | (refine ixr_by8 ?_ ?_) | (refine IV_upd ?_ ?_) | (refine Un_upd rfl ?_) | (refine IV_cpy ?_ (fun _ _ _ _ => trivial)) | (refine Un_cpy rfl ?_) | (apply Un_tr; rotate_left; assumption; rfl) | (refine And.intro ?_ ?_))) <;> (first | rfl | decide | exact Or.inl rfl | exact Or.inr (Or.inl rfl) | exact Or.inr (Or.inr rfl) | (simp only [nrm, strm, by8] at * <;> omega) | (simp [upd4, cpy4, nrm, strm, by8] at * <;> omega))) | (refine px1 hpx ?_ ?_ <;> (repeat' (first | assumption | exact trivial | exact Un_rf | (apply by8_4; assumption) | (apply by8_9; assumption) | (apply by8_22; assumption) | (apply by8_g; assumption) | (refine by8_13 ?_) | (apply rg34_of <;> assumption) | (refine rg_max ?_ ?_) | (apply rg_34; assumption) | (refine ixr_by8 ?_ ?_) | (refine IV_upd ?_ ?_) | (refine Un_upd rfl ?_) | (refine IV_cpy ?_ (fun _ _ _ _ => trivial)) | (refine Un_cpy rfl ?_) | (apply Un_tr; rotate_left; assumption; rfl) | (refine And.intro ?_ ?_))) <;> (first | rfl | decide | exact Or.inl rfl | exact Or.inr (Or.inl rfl) | exact Or.inr (Or.inr rfl) | (simp only [nrm, strm, by8] at * <;> omega) | (simp [upd4, cpy4, nrm, strm, by8] at * <;> omega))) | (refine px2 hpx ?_ ?_ <;> (repeat' (first | assumption | exact trivial | exact Un_rf | (apply by8_4; assumption) | (apply by8_9; assumption) | (apply by8_22; assumption) | (apply by8_g; assumption) | (refine by8_13 ?_) | (apply rg34_of <;> assumption) | (refine rg_max ?_ ?_) | (apply rg_34; assumption) | (refine ixr_by8 ?_ ?_) | (refine IV_upd ?_ ?_) | (refine Un_upd rfl ?_) | (refine IV_cpy ?_ (fun _ _ _ _ => trivial)) | (refine Un_cpy rfl ?_) | (apply Un_tr; rotate_left; assumption; rfl) | (refine And.intro ?_ ?_))) <;> (first | rfl | decide | exact Or.inl rfl | exact Or.inr (Or.inl rfl) | exact Or.inr (Or.inr rfl) | (simp only [nrm, strm, by8] at * <;> omega) | (simp [upd4, cpy4, nrm, strm, by8] at * <;> omega))) | (refine px3 hpx ?_ ?_ <;> (repeat' (first | assumption | exact trivial | exact Un_rf | (apply by8_4; assumption) | (apply by8_9; assumption) | (apply by8_22; assumption) | (apply by8_g; assumption) | (refine by8_13 ?_) | (apply rg34_of <;> assumption) | (refine rg_max ?_ ?_) | (apply rg_34; assumption) | (refine ixr_by8 ?_ ?_) | (refine IV_upd ?_ ?_) | (refine Un_upd rfl ?_) | (refine IV_cpy ?_ (fun _ _ _ _ => trivial)) | (refine Un_cpy rfl ?_) | (apply Un_tr; rotate_left; assumption; rfl) | (refine And.intro ?_ ?_))) <;> (first | rfl | decide | exact Or.inl rfl | exact Or.inr (Or.inl rfl) | exact Or.inr (Or.inr rfl) | (simp only [nrm, strm, by8] at * <;> omega) | (simp [upd4, cpy4, nrm, strm, by8] at * <;> omega))) | (refine px4 hpx ?_ ?_ <;> (repeat' (first | assumption | exact trivial | exact Un_rf | (apply by8_4; assumption) | (apply by8_9; assumption) | (apply by8_22; assumption) | (apply by8_g; assumption) | (refine by8_13 ?_) | (apply rg34_of <;> assumption) | (refine rg_max ?_ ?_) | (apply rg_34; assumption) | (refine ixr_by8 ?_ ?_) | (refine IV_upd ?_ ?_) | (refine Un_upd rfl ?_) | (refine IV_cpy ?_ (fun _ _ _ _ => trivial)) | (refine Un_cpy rfl ?_) | (apply Un_tr; rotate_left; assumption; rfl) | (refine And.intro ?_ ?_))) <;> (first | rfl | decide | exact Or.inl rfl | exact Or.inr (Or.inl rfl) | exact Or.inr (Or.inr rfl) | (simp only [nrm, strm, by8] at * <;> omega) | (simp [upd4, cpy4, nrm, strm, by8] at * <;> omega))) | (first | rfl | decide | exact Or.inl rfl | exact Or.inr (Or.inl rfl) | exact Or.inr (Or.inr rfl) | (simp only [nrm, strm, by8] at * <;> omega) | (simp [upd4, cpy4, nrm, strm, by8] at * <;> omega)) | ((repeat' (first | assumption | exact trivial | exact Un_rf | (apply by8_4; assumption) | (apply by8_9; assumption) | (apply by8_22; assumption) | (apply by8_g; assumption) | (refine by8_13 ?_) | (apply rg34_of <;> assumption) | (refine rg_max ?_ ?_) | (apply rg_34; assumption) | (refine ixr_by8 ?_ ?_) | (refine IV_upd ?_ ?_) | (refine Un_upd rfl ?_) | (refine IV_cpy ?_ (fun _ _ _ _ => trivial)) | (refine Un_cpy rfl ?_) | (apply Un_tr; rotate_left; assumption; rfl) | (refine And.intro ?_ ?_))) <;> (first | rfl | decide | exact Or.inl rfl | exact Or.inr (Or.inl rfl) | exact Or.inr (Or.inr rfl) | (simp only [nrm, strm, by8] at * <;> omega) | (simp [upd4, cpy4, nrm, strm, by8] at * <;> omega)))
  · intro av σ K kx n pc L st σ' nc ns _ _ h
    exact (h : False).elim
def gt_FrameStreams_heard (a : Nat) : Option Nat := match a with
  | _ => none
theorem go_FrameStreams_heard : ∀ a v, gt_FrameStreams_heard a = some v → StaOK R_FrameStreams a v := by
  intro a v h
  unfold gt_FrameStreams_heard at h
  cases h
def pr_FrameStreams_heard : List Ent := [(0, 3, 1, 0, 0), (1, 0, 0, 0, 0), (2, 0, 0, 1, 0), (3, 47, 25, 0, 0), (6, 3, 2, 0, 0), (7, 47, 84, 0, 0), (10, 3, 3, 0, 0), (11, 28, 0, 0, 18), (14, 0, 0, 1, 0), (15, 38, 0, 0, 19), (18, 0, 0, 0, 0), (19, 47, 147, 0, 0), (22, 4, 5, 0, 0), (24, 28, 0, 0, 31), (27, 0, 0, 1, 0), (28, 38, 0, 0, 32), (31, 0, 0, 0, 0), (32, 47, 147, 0, 0), (35, 5, 0, 0, 0), (36, 39, 15, 0, 0), (39, 3, 1, 0, 0), (40, 43, 0, 0, 0), (41, 3, 2, 0, 0), (42, 46, 68, 0, 0), (45, 46, 156, 0, 0), (48, 10, 6, 0, 0), (50, 3, 3, 0, 0), (51, 6, 6, 0, 0), (53, 46, 51, 0, 0), (56, 35, 0, 0, 63), (59, 0, 0, 1, 0), (60, 38, 0, 0, 64), (63, 0, 0, 0, 0), (64, 47, 129, 0, 0), (67, 4, 4, 0, 0), (69, 26, 0, 0, 81), (72, 6, 6, 0, 0), (74, 3, 3, 0, 0), (75, 46, 159, 0, 0), (78, 38, 0, 0, 87), (81, 6, 6, 0, 0), (83, 3, 3, 0, 0), (84, 46, 162, 0, 0), (87, 8, 7, 0, 0), (89, 4, 5, 0, 0), (91, 4, 7, 0, 0), (93, 47, 31, 0, 0), (96, 35, 0, 0, 103), (99, 0, 0, 1, 0), (100, 38, 0, 0, 104), (103, 0, 0, 0, 0), (104, 47, 129, 0, 0), (107, 4, 7, 0, 0), (109, 4, 5, 0, 0), (111, 47, 165, 0, 0), (114, 48, 0, 0, 0)]
def sw_FrameStreams_heard : List Swt := []
theorem dk_FrameStreams_heard : ∀ q ∈ pr_FrameStreams_heard, decode b_FrameStreams_heard q.1 = .ok (dec sw_FrameStreams_heard q) ∧ okE q = true := by decide +kernel
theorem nt_FrameStreams_heard : ∀ q ∈ pr_FrameStreams_heard, ¬ q.2.1 = 55 := by decide +kernel
def ct_FrameStreams_heard (a : Nat) : Option (Nat × Nat × CSp × Nat × Nat) := match a with
  | 25 => some (3, 1000, sp_FrameStreams_requireWithin, 1, 6)
  | 31 => some (1, 1000, sp_Letters_length, 0, 0)
  | 51 => some (1, 4, sp_Fields_count, 0, 0)
  | 68 => some (2, 3, sp_End_find, 0, 0)
  | 84 => some (1, 1000, sp_FrameStreams_requireStream, 1, 6)
  | 129 => some (1, 1000, sp_FrameStreams_requireThere, 1, 6)
  | 147 => some (1, 1000, sp_FrameStreams_requireArgument, 1, 6)
  | 156 => some (1, 6, sp_Stream_fields, 0, 0)
  | 159 => some (2, 4, sp_Fields_valueAt, 0, 0)
  | 162 => some (2, 4, sp_Fields_nameAt, 0, 0)
  | 165 => some (2, 1000, sp_Letters_letterAt, 0, 0)
  | _ => none
theorem co_FrameStreams_heard : ∀ a v, ct_FrameStreams_heard a = some v → StcOK R_FrameStreams 8 131 a v := by
  intro a v h
  unfold ct_FrameStreams_heard at h
  split at h
  · cases h; exact ⟨y_FrameStreams_requireWithin, b_FrameStreams_requireWithin, 3, none, 7, 109, 3, c_FrameStreams_requireWithin, by decide, by decide +kernel, by decide +kernel, by decide +kernel, (by first | exact Or.inr (Or.inl ⟨rfl, rfl, by decide +kernel, by decide +kernel⟩) | exact Or.inr (Or.inr ⟨rfl, rfl, ⟨"FrameStreams", by decide +kernel⟩, by decide +kernel⟩))⟩
  · cases h; exact ⟨y_Letters_length, b_Letters_length, 2, (some .int), 0, 0, 1, c_Letters_length, by decide, by decide +kernel, by decide +kernel, by decide +kernel, (by first | exact Or.inr (Or.inl ⟨rfl, rfl, by decide +kernel, by decide +kernel⟩) | exact Or.inr (Or.inr ⟨rfl, rfl, ⟨"FrameStreams", by decide +kernel⟩, by decide +kernel⟩))⟩
  · cases h; exact ⟨y_Fields_count, b_Fields_count, 1, (some .int), 0, 0, 0, c_Fields_count, by decide, by decide +kernel, by decide +kernel, by decide +kernel, Or.inl ⟨rfl, by decide, by decide +kernel, by decide +kernel, _, _, rfl, by decide +kernel⟩⟩
  · cases h; exact ⟨y_End_find, b_End_find, 2, (some (.object "FrameStreams$Stream")), 1, 20, 1, c_End_find, by decide, by decide +kernel, by decide +kernel, by decide +kernel, Or.inl ⟨rfl, by decide, by decide +kernel, by decide +kernel, _, _, rfl, by decide +kernel⟩⟩
  · cases h; exact ⟨y_FrameStreams_requireStream, b_FrameStreams_requireStream, 1, none, 7, 109, 1, c_FrameStreams_requireStream, by decide, by decide +kernel, by decide +kernel, by decide +kernel, (by first | exact Or.inr (Or.inl ⟨rfl, rfl, by decide +kernel, by decide +kernel⟩) | exact Or.inr (Or.inr ⟨rfl, rfl, ⟨"FrameStreams", by decide +kernel⟩, by decide +kernel⟩))⟩
  · cases h; exact ⟨y_FrameStreams_requireThere, b_FrameStreams_requireThere, 1, none, 6, 89, 1, c_FrameStreams_requireThere, by decide, by decide +kernel, by decide +kernel, by decide +kernel, (by first | exact Or.inr (Or.inl ⟨rfl, rfl, by decide +kernel, by decide +kernel⟩) | exact Or.inr (Or.inr ⟨rfl, rfl, ⟨"FrameStreams", by decide +kernel⟩, by decide +kernel⟩))⟩
  · cases h; exact ⟨y_FrameStreams_requireArgument, b_FrameStreams_requireArgument, 1, none, 6, 89, 1, c_FrameStreams_requireArgument, by decide, by decide +kernel, by decide +kernel, by decide +kernel, (by first | exact Or.inr (Or.inl ⟨rfl, rfl, by decide +kernel, by decide +kernel⟩) | exact Or.inr (Or.inr ⟨rfl, rfl, ⟨"FrameStreams", by decide +kernel⟩, by decide +kernel⟩))⟩
  · cases h; exact ⟨y_Stream_fields, b_Stream_fields, 1, (some (.object "FrameStreams$Fields")), 0, 0, 0, c_Stream_fields, by decide, by decide +kernel, by decide +kernel, by decide +kernel, Or.inl ⟨rfl, by decide, by decide +kernel, by decide +kernel, _, _, rfl, by decide +kernel⟩⟩
  · cases h; exact ⟨y_Fields_valueAt, b_Fields_valueAt, 2, (some .int), 0, 0, 1, c_Fields_valueAt, by decide, by decide +kernel, by decide +kernel, by decide +kernel, Or.inl ⟨rfl, by decide, by decide +kernel, by decide +kernel, _, _, rfl, by decide +kernel⟩⟩
  · cases h; exact ⟨y_Fields_nameAt, b_Fields_nameAt, 2, (some .int), 0, 0, 1, c_Fields_nameAt, by decide, by decide +kernel, by decide +kernel, by decide +kernel, Or.inl ⟨rfl, by decide, by decide +kernel, by decide +kernel, _, _, rfl, by decide +kernel⟩⟩
  · cases h; exact ⟨y_Letters_letterAt, b_Letters_letterAt, 2, (some .int), 0, 0, 2, c_Letters_letterAt, by decide, by decide +kernel, by decide +kernel, by decide +kernel, (by first | exact Or.inr (Or.inl ⟨rfl, rfl, by decide +kernel, by decide +kernel⟩) | exact Or.inr (Or.inr ⟨rfl, rfl, ⟨"FrameStreams", by decide +kernel⟩, by decide +kernel⟩))⟩
  · cases h
/-- FrameStreams_heard -/
def sp_FrameStreams_heard : CSp := sRIIIII (fun q x0 x1 x2 x3 x4 σ K kx => q.1 = 0 ∧ (rI x0 ∧ rI x1 ∧ rI x2 ∧ rI x3 ∧ rI x4) ∧ IV σ ∧ pubK σ K ∧ pubX σ kx)
set_option maxHeartbeats 4000000 in
set_option maxRecDepth 100000 in
theorem c_FrameStreams_heard : Ctr y_FrameStreams_heard b_FrameStreams_heard 8 (some .int) 8 131 6 36 sp_FrameStreams_heard := by
  refine ctr_of (FT := ft_FrameStreams) (GT := gt_FrameStreams_heard) (CT := ct_FrameStreams_heard) (sw := sw_FrameStreams_heard) (rt := 0) (pr := pr_FrameStreams_heard) (by decide) [] (fun _ _ _ _ _ _ _ _ _ _ _ => False) 70 ⟨fun _ => rfl, fun h => absurd h (by decide), fun h => absurd h (by decide), fun h => absurd h (by decide)⟩ dk_FrameStreams_heard fo_FrameStreams go_FrameStreams_heard co_FrameStreams_heard (fun a k h hk => by unfold gt_FrameStreams_heard at h; cases h) (fun q hq h => absurd h (nt_FrameStreams_heard q hq)) (fun av σ K kx h => by rw [sRIIIII_len h]; decide) ?_ ?_
  · intro av σ K kx hok hSp
    obtain ⟨q0, x0, x1, x2, x3, x4, rfl, hp⟩ := sRIIIII_inv hSp
    obtain ⟨k0, e0, i0⟩ := q0
    obtain ⟨h0, hr, hI, hpk, hpx⟩ := hp
    dsimp only at h0; subst h0
    simp only [rI] at hr
    all_goals (repeat' (first | (with_reducible assumption) | (with_reducible (apply by8_9; assumption)) | (with_reducible (apply by8_4; assumption)) | (with_reducible (apply by8_22; assumption)) | (with_reducible (apply by8_g; assumption)) | (with_reducible (apply rg34_of <;> assumption)) | (with_reducible refine rg_max ?_ ?_) | (with_reducible refine IV_upd ?_ ?_) | (with_reducible refine IV_cpy ?_ (fun _ _ _ _ => trivial)) | (refine And.intro ?_ ?_) | (intro _)))
    all_goals first | (refine pk hpk ?_ ?_ <;> (repeat' (first | assumption | exact trivial | exact Un_rf | (apply by8_4; assumption) | (apply by8_9; assumption) | (apply by8_22; assumption) | (apply by8_g; assumption) | (refine by8_13 ?_) | (apply rg34_of <;> assumption) | (refine rg_max ?_ ?_) | (apply rg_34; assumption) | (refine ixr_by8 ?_ ?_) | (refine IV_upd ?_ ?_) | (refine Un_upd rfl ?_) | (refine IV_cpy ?_ (fun _ _ _ _ => trivial)) | (refine Un_cpy rfl ?_) | (apply Un_tr; rotate_left; assumption; rfl) | (refine And.intro ?_ ?_))) <;> (first | rfl | decide | exact Or.inl rfl | exact Or.inr (Or.inl rfl) | exact Or.inr (Or.inr rfl) | (simp only [nrm, strm, by8] at * <;> omega) | (simp [upd4, cpy4, nrm, strm, by8] at * <;> omega))) | (refine px1 hpx ?_ ?_ <;> (repeat' (first | assumption | exact trivial | exact Un_rf | (apply by8_4; assumption) | (apply by8_9; assumption) | (apply by8_22; assumption) | (apply by8_g; assumption) | (refine by8_13 ?_) | (apply rg34_of <;> assumption) | (refine rg_max ?_ ?_) | (apply rg_34; assumption) | (refine ixr_by8 ?_ ?_) | (refine IV_upd ?_ ?_) | (refine Un_upd rfl ?_) | (refine IV_cpy ?_ (fun _ _ _ _ => trivial)) | (refine Un_cpy rfl ?_) | (apply Un_tr; rotate_left; assumption; rfl) | (refine And.intro ?_ ?_))) <;> (first | rfl | decide | exact Or.inl rfl | exact Or.inr (Or.inl rfl) | exact Or.inr (Or.inr rfl) | (simp only [nrm, strm, by8] at * <;> omega) | (simp [upd4, cpy4, nrm, strm, by8] at * <;> omega))) | (refine px2 hpx ?_ ?_ <;> (repeat' (first | assumption | exact trivial | exact Un_rf | (apply by8_4; assumption) | (apply by8_9; assumption) | (apply by8_22; assumption) | (apply by8_g; assumption) | (refine by8_13 ?_) | (apply rg34_of <;> assumption) | (refine rg_max ?_ ?_) | (apply rg_34; assumption) | (refine ixr_by8 ?_ ?_) | (refine IV_upd ?_ ?_) | (refine Un_upd rfl ?_) | (refine IV_cpy ?_ (fun _ _ _ _ => trivial)) | (refine Un_cpy rfl ?_) | (apply Un_tr; rotate_left; assumption; rfl) | (refine And.intro ?_ ?_))) <;> (first | rfl | decide | exact Or.inl rfl | exact Or.inr (Or.inl rfl) | exact Or.inr (Or.inr rfl) | (simp only [nrm, strm, by8] at * <;> omega) | (simp [upd4, cpy4, nrm, strm, by8] at * <;> omega))) | (refine px3 hpx ?_ ?_ <;> (repeat' (first | assumption | exact trivial | exact Un_rf | (apply by8_4; assumption) | (apply by8_9; assumption) | (apply by8_22; assumption) | (apply by8_g; assumption) | (refine by8_13 ?_) | (apply rg34_of <;> assumption) | (refine rg_max ?_ ?_) | (apply rg_34; assumption) | (refine ixr_by8 ?_ ?_) | (refine IV_upd ?_ ?_) | (refine Un_upd rfl ?_) | (refine IV_cpy ?_ (fun _ _ _ _ => trivial)) | (refine Un_cpy rfl ?_) | (apply Un_tr; rotate_left; assumption; rfl) | (refine And.intro ?_ ?_))) <;> (first | rfl | decide | exact Or.inl rfl | exact Or.inr (Or.inl rfl) | exact Or.inr (Or.inr rfl) | (simp only [nrm, strm, by8] at * <;> omega) | (simp [upd4, cpy4, nrm, strm, by8] at * <;> omega))) | (refine px4 hpx ?_ ?_ <;> (repeat' (first | assumption | exact trivial | exact Un_rf | (apply by8_4; assumption) | (apply by8_9; assumption) | (apply by8_22; assumption) | (apply by8_g; assumption) | (refine by8_13 ?_) | (apply rg34_of <;> assumption) | (refine rg_max ?_ ?_) | (apply rg_34; assumption) | (refine ixr_by8 ?_ ?_) | (refine IV_upd ?_ ?_) | (refine Un_upd rfl ?_) | (refine IV_cpy ?_ (fun _ _ _ _ => trivial)) | (refine Un_cpy rfl ?_) | (apply Un_tr; rotate_left; assumption; rfl) | (refine And.intro ?_ ?_))) <;> (first | rfl | decide | exact Or.inl rfl | exact Or.inr (Or.inl rfl) | exact Or.inr (Or.inr rfl) | (simp only [nrm, strm, by8] at * <;> omega) | (simp [upd4, cpy4, nrm, strm, by8] at * <;> omega))) | (first | rfl | decide | exact Or.inl rfl | exact Or.inr (Or.inl rfl) | exact Or.inr (Or.inr rfl) | (simp only [nrm, strm, by8] at * <;> omega) | (simp [upd4, cpy4, nrm, strm, by8] at * <;> omega)) | ((repeat' (first | assumption | exact trivial | exact Un_rf | (apply by8_4; assumption) | (apply by8_9; assumption) | (apply by8_22; assumption) | (apply by8_g; assumption) | (refine by8_13 ?_) | (apply rg34_of <;> assumption) | (refine rg_max ?_ ?_) | (apply rg_34; assumption) | (refine ixr_by8 ?_ ?_) | (refine IV_upd ?_ ?_) | (refine Un_upd rfl ?_) | (refine IV_cpy ?_ (fun _ _ _ _ => trivial)) | (refine Un_cpy rfl ?_) | (apply Un_tr; rotate_left; assumption; rfl) | (refine And.intro ?_ ?_))) <;> (first | rfl | decide | exact Or.inl rfl | exact Or.inr (Or.inl rfl) | exact Or.inr (Or.inr rfl) | (simp only [nrm, strm, by8] at * <;> omega) | (simp [upd4, cpy4, nrm, strm, by8] at * <;> omega)))
  · intro av σ K kx n pc L st σ' nc ns _ _ h
    exact (h : False).elim
end
section
def gt_FrameStreams_window (a : Nat) : Option Nat := match a with
  | _ => none
theorem go_FrameStreams_window : ∀ a v, gt_FrameStreams_window a = some v → StaOK R_FrameStreams a v := by
  intro a v h
  unfold gt_FrameStreams_window at h
  cases h
def pr_FrameStreams_window : List Ent := [(0, 3, 1, 0, 0), (1, 0, 0, 0, 0), (2, 0, 0, 1, 0), (3, 47, 25, 0, 0), (6, 3, 2, 0, 0), (7, 47, 61, 0, 0), (10, 3, 3, 0, 0), (11, 0, 0, 1, 0), (12, 1, 0, 60, 0), (14, 47, 25, 0, 0), (17, 5, 0, 0, 0), (18, 39, 15, 0, 0), (21, 3, 1, 0, 0), (22, 43, 0, 0, 0), (23, 10, 4, 0, 0), (25, 6, 4, 0, 0), (27, 3, 2, 0, 0), (28, 46, 68, 0, 0), (31, 10, 5, 0, 0), (33, 6, 4, 0, 0), (35, 0, 0, 1, 0), (36, 46, 87, 0, 0), (39, 47, 35, 0, 0), (42, 6, 5, 0, 0), (44, 46, 97, 0, 0), (47, 47, 35, 0, 0), (50, 6, 5, 0, 0), (52, 46, 100, 0, 0), (55, 3, 3, 0, 0), (56, 12, 0, 0, 0), (57, 2, 0, 250, 0), (60, 36, 0, 0, 67), (63, 0, 0, 1, 0), (64, 38, 0, 0, 68), (67, 0, 0, 0, 0), (68, 47, 35, 0, 0), (71, 6, 5, 0, 0), (73, 3, 3, 0, 0), (74, 46, 103, 0, 0), (77, 6, 4, 0, 0), (79, 1, 0, 8, 0), (81, 0, 0, 0, 0), (82, 3, 2, 0, 0), (83, 3, 3, 0, 0), (84, 46, 106, 0, 0), (87, 24, 0, 0, 0), (88, 6, 5, 0, 0), (90, 46, 100, 0, 0), (93, 48, 0, 0, 0)]
def sw_FrameStreams_window : List Swt := []
theorem dk_FrameStreams_window : ∀ q ∈ pr_FrameStreams_window, decode b_FrameStreams_window q.1 = .ok (dec sw_FrameStreams_window q) ∧ okE q = true := by decide +kernel
theorem nt_FrameStreams_window : ∀ q ∈ pr_FrameStreams_window, ¬ q.2.1 = 55 := by decide +kernel
def ct_FrameStreams_window (a : Nat) : Option (Nat × Nat × CSp × Nat × Nat) := match a with
  | 25 => some (3, 1000, sp_FrameStreams_requireWithin, 1, 6)
  | 35 => some (1, 1000, sp_FrameStreams_requireState, 1, 6)
  | 61 => some (1, 1000, sp_FrameStreams_requireStreamOrConnection, 1, 6)
  | 68 => some (2, 3, sp_End_find, 0, 0)
  | 87 => some (2, 3, sp_End_maySend, 0, 0)
  | 97 => some (1, 6, sp_Stream_isLive, 0, 0)
  | 100 => some (1, 6, sp_Stream_due, 0, 0)
  | 103 => some (2, 6, sp_Stream_growDue, 0, 0)
  | 106 => some (5, 3, sp_End_sendByte, 0, 0)
  | _ => none
theorem co_FrameStreams_window : ∀ a v, ct_FrameStreams_window a = some v → StcOK R_FrameStreams 8 131 a v := by
  intro a v h
  unfold ct_FrameStreams_window at h
  split at h
  · cases h; exact ⟨y_FrameStreams_requireWithin, b_FrameStreams_requireWithin, 3, none, 7, 109, 3, c_FrameStreams_requireWithin, by decide, by decide +kernel, by decide +kernel, by decide +kernel, (by first | exact Or.inr (Or.inl ⟨rfl, rfl, by decide +kernel, by decide +kernel⟩) | exact Or.inr (Or.inr ⟨rfl, rfl, ⟨"FrameStreams", by decide +kernel⟩, by decide +kernel⟩))⟩
  · cases h; exact ⟨y_FrameStreams_requireState, b_FrameStreams_requireState, 1, none, 6, 89, 1, c_FrameStreams_requireState, by decide, by decide +kernel, by decide +kernel, by decide +kernel, (by first | exact Or.inr (Or.inl ⟨rfl, rfl, by decide +kernel, by decide +kernel⟩) | exact Or.inr (Or.inr ⟨rfl, rfl, ⟨"FrameStreams", by decide +kernel⟩, by decide +kernel⟩))⟩
  · cases h; exact ⟨y_FrameStreams_requireStreamOrConnection, b_FrameStreams_requireStreamOrConnection, 1, none, 7, 109, 1, c_FrameStreams_requireStreamOrConnection, by decide, by decide +kernel, by decide +kernel, by decide +kernel, (by first | exact Or.inr (Or.inl ⟨rfl, rfl, by decide +kernel, by decide +kernel⟩) | exact Or.inr (Or.inr ⟨rfl, rfl, ⟨"FrameStreams", by decide +kernel⟩, by decide +kernel⟩))⟩
  · cases h; exact ⟨y_End_find, b_End_find, 2, (some (.object "FrameStreams$Stream")), 1, 20, 1, c_End_find, by decide, by decide +kernel, by decide +kernel, by decide +kernel, Or.inl ⟨rfl, by decide, by decide +kernel, by decide +kernel, _, _, rfl, by decide +kernel⟩⟩
  · cases h; exact ⟨y_End_maySend, b_End_maySend, 2, (some .boolean), 1, 21, 1, c_End_maySend, by decide, by decide +kernel, by decide +kernel, by decide +kernel, Or.inl ⟨rfl, by decide, by decide +kernel, by decide +kernel, _, _, rfl, by decide +kernel⟩⟩
  · cases h; exact ⟨y_Stream_isLive, b_Stream_isLive, 1, (some .boolean), 1, 20, 0, c_Stream_isLive, by decide, by decide +kernel, by decide +kernel, by decide +kernel, Or.inl ⟨rfl, by decide, by decide +kernel, by decide +kernel, _, _, rfl, by decide +kernel⟩⟩
  · cases h; exact ⟨y_Stream_due, b_Stream_due, 1, (some .int), 0, 0, 0, c_Stream_due, by decide, by decide +kernel, by decide +kernel, by decide +kernel, Or.inl ⟨rfl, by decide, by decide +kernel, by decide +kernel, _, _, rfl, by decide +kernel⟩⟩
  · cases h; exact ⟨y_Stream_growDue, b_Stream_growDue, 2, none, 0, 0, 1, c_Stream_growDue, by decide, by decide +kernel, by decide +kernel, by decide +kernel, Or.inl ⟨rfl, by decide, by decide +kernel, by decide +kernel, _, _, rfl, by decide +kernel⟩⟩
  · cases h; exact ⟨y_End_sendByte, b_End_sendByte, 5, (some .int), 2, 45, 4, c_End_sendByte, by decide, by decide +kernel, by decide +kernel, by decide +kernel, Or.inl ⟨rfl, by decide, by decide +kernel, by decide +kernel, _, _, rfl, by decide +kernel⟩⟩
  · cases h
/-- FrameStreams_window -/
def sp_FrameStreams_window : CSp := sRIII (fun q x0 x1 x2 σ K kx => q.1 = 0 ∧ (rI x0 ∧ rI x1 ∧ rI x2) ∧ IV σ ∧ pubK σ K ∧ pubX σ kx)
set_option maxHeartbeats 4000000 in
set_option maxRecDepth 100000 in
theorem c_FrameStreams_window : Ctr y_FrameStreams_window b_FrameStreams_window 6 (some .int) 8 131 6 36 sp_FrameStreams_window := by
  refine ctr_of (FT := ft_FrameStreams) (GT := gt_FrameStreams_window) (CT := ct_FrameStreams_window) (sw := sw_FrameStreams_window) (rt := 0) (pr := pr_FrameStreams_window) (by decide) [] (fun _ _ _ _ _ _ _ _ _ _ _ => False) 60 ⟨fun _ => rfl, fun h => absurd h (by decide), fun h => absurd h (by decide), fun h => absurd h (by decide)⟩ dk_FrameStreams_window fo_FrameStreams go_FrameStreams_window co_FrameStreams_window (fun a k h hk => by unfold gt_FrameStreams_window at h; cases h) (fun q hq h => absurd h (nt_FrameStreams_window q hq)) (fun av σ K kx h => by rw [sRIII_len h]; decide) ?_ ?_
  · intro av σ K kx hok hSp
    obtain ⟨q0, x0, x1, x2, rfl, hp⟩ := sRIII_inv hSp
    obtain ⟨k0, e0, i0⟩ := q0
    obtain ⟨h0, hr, hI, hpk, hpx⟩ := hp
    dsimp only at h0; subst h0
    simp only [rI] at hr
    all_goals (repeat' (first | (with_reducible assumption) | (with_reducible (apply by8_9; assumption)) | (with_reducible (apply by8_4; assumption)) | (with_reducible (apply by8_22; assumption)) | (with_reducible (apply by8_g; assumption)) | (with_reducible (apply rg34_of <;> assumption)) | (with_reducible refine rg_max ?_ ?_) | (with_reducible refine IV_upd ?_ ?_) | (with_reducible refine IV_cpy ?_ (fun _ _ _ _ => trivial)) | (refine And.intro ?_ ?_) | (intro h9; first | exact absurd h9 (by decide) | contradiction | skip)))
    all_goals first | (refine pk hpk ?_ ?_ <;> (repeat' (first | assumption | exact trivial | exact Un_rf | (apply by8_4; assumption) | (apply by8_9; assumption) | (apply by8_22; assumption) | (apply by8_g; assumption) | (refine by8_13 ?_) | (apply rg34_of <;> assumption) | (refine rg_max ?_ ?_) | (apply rg_34; assumption) | (refine ixr_by8 ?_ ?_) | (refine IV_upd ?_ ?_) | (refine Un_upd rfl ?_) | (refine IV_cpy ?_ (fun _ _ _ _ => trivial)) | (refine Un_cpy rfl ?_) | (apply Un_tr; rotate_left; assumption; rfl) | (refine And.intro ?_ ?_))) <;> (first | rfl | decide | exact Or.inl rfl | exact Or.inr (Or.inl rfl) | exact Or.inr (Or.inr rfl) | (simp only [nrm, strm, by8] at * <;> omega) | (simp [upd4, cpy4, nrm, strm, by8] at * <;> omega))) | (refine px1 hpx ?_ ?_ <;> (repeat' (first | assumption | exact trivial | exact Un_rf | (apply by8_4; assumption) | (apply by8_9; assumption) | (apply by8_22; assumption) | (apply by8_g; assumption) | (refine by8_13 ?_) | (apply rg34_of <;> assumption) | (refine rg_max ?_ ?_) | (apply rg_34; assumption) | (refine ixr_by8 ?_ ?_) | (refine IV_upd ?_ ?_) | (refine Un_upd rfl ?_) | (refine IV_cpy ?_ (fun _ _ _ _ => trivial)) | (refine Un_cpy rfl ?_) | (apply Un_tr; rotate_left; assumption; rfl) | (refine And.intro ?_ ?_))) <;> (first | rfl | decide | exact Or.inl rfl | exact Or.inr (Or.inl rfl) | exact Or.inr (Or.inr rfl) | (simp only [nrm, strm, by8] at * <;> omega) | (simp [upd4, cpy4, nrm, strm, by8] at * <;> omega))) | (refine px2 hpx ?_ ?_ <;> (repeat' (first | assumption | exact trivial | exact Un_rf | (apply by8_4; assumption) | (apply by8_9; assumption) | (apply by8_22; assumption) | (apply by8_g; assumption) | (refine by8_13 ?_) | (apply rg34_of <;> assumption) | (refine rg_max ?_ ?_) | (apply rg_34; assumption) | (refine ixr_by8 ?_ ?_) | (refine IV_upd ?_ ?_) | (refine Un_upd rfl ?_) | (refine IV_cpy ?_ (fun _ _ _ _ => trivial)) | (refine Un_cpy rfl ?_) | (apply Un_tr; rotate_left; assumption; rfl) | (refine And.intro ?_ ?_))) <;> (first | rfl | decide | exact Or.inl rfl | exact Or.inr (Or.inl rfl) | exact Or.inr (Or.inr rfl) | (simp only [nrm, strm, by8] at * <;> omega) | (simp [upd4, cpy4, nrm, strm, by8] at * <;> omega))) | (refine px3 hpx ?_ ?_ <;> (repeat' (first | assumption | exact trivial | exact Un_rf | (apply by8_4; assumption) | (apply by8_9; assumption) | (apply by8_22; assumption) | (apply by8_g; assumption) | (refine by8_13 ?_) | (apply rg34_of <;> assumption) | (refine rg_max ?_ ?_) | (apply rg_34; assumption) | (refine ixr_by8 ?_ ?_) | (refine IV_upd ?_ ?_) | (refine Un_upd rfl ?_) | (refine IV_cpy ?_ (fun _ _ _ _ => trivial)) | (refine Un_cpy rfl ?_) | (apply Un_tr; rotate_left; assumption; rfl) | (refine And.intro ?_ ?_))) <;> (first | rfl | decide | exact Or.inl rfl | exact Or.inr (Or.inl rfl) | exact Or.inr (Or.inr rfl) | (simp only [nrm, strm, by8] at * <;> omega) | (simp [upd4, cpy4, nrm, strm, by8] at * <;> omega))) | (refine px4 hpx ?_ ?_ <;> (repeat' (first | assumption | exact trivial | exact Un_rf | (apply by8_4; assumption) | (apply by8_9; assumption) | (apply by8_22; assumption) | (apply by8_g; assumption) | (refine by8_13 ?_) | (apply rg34_of <;> assumption) | (refine rg_max ?_ ?_) | (apply rg_34; assumption) | (refine ixr_by8 ?_ ?_) | (refine IV_upd ?_ ?_) | (refine Un_upd rfl ?_) | (refine IV_cpy ?_ (fun _ _ _ _ => trivial)) | (refine Un_cpy rfl ?_) | (apply Un_tr; rotate_left; assumption; rfl) | (refine And.intro ?_ ?_))) <;> (first | rfl | decide | exact Or.inl rfl | exact Or.inr (Or.inl rfl) | exact Or.inr (Or.inr rfl) | (simp only [nrm, strm, by8] at * <;> omega) | (simp [upd4, cpy4, nrm, strm, by8] at * <;> omega))) | (first | rfl | decide | exact Or.inl rfl | exact Or.inr (Or.inl rfl) | exact Or.inr (Or.inr rfl) | (simp only [nrm, strm, by8] at * <;> omega) | (simp [upd4, cpy4, nrm, strm, by8] at * <;> omega)) | ((repeat' (first | assumption | exact trivial | exact Un_rf | (apply by8_4; assumption) | (apply by8_9; assumption) | (apply by8_22; assumption) | (apply by8_g; assumption) | (refine by8_13 ?_) | (apply rg34_of <;> assumption) | (refine rg_max ?_ ?_) | (apply rg_34; assumption) | (refine ixr_by8 ?_ ?_) | (refine IV_upd ?_ ?_) | (refine Un_upd rfl ?_) | (refine IV_cpy ?_ (fun _ _ _ _ => trivial)) | (refine Un_cpy rfl ?_) | (apply Un_tr; rotate_left; assumption; rfl) | (refine And.intro ?_ ?_))) <;> (first | rfl | decide | exact Or.inl rfl | exact Or.inr (Or.inl rfl) | exact Or.inr (Or.inr rfl) | (simp only [nrm, strm, by8] at * <;> omega) | (simp [upd4, cpy4, nrm, strm, by8] at * <;> omega)))
  · intro av σ K kx n pc L st σ' nc ns _ _ h
    exact (h : False).elim
end
section
def gt_FrameStreams_headers (a : Nat) : Option Nat := match a with
  | _ => none
theorem go_FrameStreams_headers : ∀ a v, gt_FrameStreams_headers a = some v → StaOK R_FrameStreams a v := by
  intro a v h
  unfold gt_FrameStreams_headers at h
  cases h
def pr_FrameStreams_headers : List Ent := [(0, 3, 1, 0, 0), (1, 0, 0, 0, 0), (2, 0, 0, 1, 0), (3, 47, 25, 0, 0), (6, 3, 2, 0, 0), (7, 47, 61, 0, 0), (10, 5, 0, 0, 0), (11, 39, 15, 0, 0), (14, 3, 1, 0, 0), (15, 43, 0, 0, 0), (16, 10, 4, 0, 0), (18, 3, 2, 0, 0), (19, 27, 0, 0, 30), (22, 6, 4, 0, 0), (24, 46, 65, 0, 0), (27, 38, 0, 0, 31), (30, 3, 2, 0, 0), (31, 8, 5, 0, 0), (33, 4, 5, 0, 0), (35, 26, 0, 0, 42), (38, 0, 0, 1, 0), (39, 38, 0, 0, 43), (42, 0, 0, 0, 0), (43, 47, 35, 0, 0), (46, 3, 2, 0, 0), (47, 26, 0, 0, 63), (50, 6, 4, 0, 0), (52, 4, 5, 0, 0), (54, 46, 68, 0, 0), (57, 46, 72, 0, 0), (60, 26, 0, 0, 67), (63, 0, 0, 1, 0), (64, 38, 0, 0, 68), (67, 0, 0, 0, 0), (68, 47, 35, 0, 0), (71, 6, 4, 0, 0), (73, 46, 77, 0, 0), (76, 47, 35, 0, 0), (79, 6, 4, 0, 0), (81, 4, 5, 0, 0), (83, 3, 3, 0, 0), (84, 46, 80, 0, 0), (87, 4, 5, 0, 0), (89, 48, 0, 0, 0)]
def sw_FrameStreams_headers : List Swt := []
theorem dk_FrameStreams_headers : ∀ q ∈ pr_FrameStreams_headers, decode b_FrameStreams_headers q.1 = .ok (dec sw_FrameStreams_headers q) ∧ okE q = true := by decide +kernel
theorem nt_FrameStreams_headers : ∀ q ∈ pr_FrameStreams_headers, ¬ q.2.1 = 55 := by decide +kernel
def ct_FrameStreams_headers (a : Nat) : Option (Nat × Nat × CSp × Nat × Nat) := match a with
  | 25 => some (3, 1000, sp_FrameStreams_requireWithin, 1, 6)
  | 35 => some (1, 1000, sp_FrameStreams_requireState, 1, 6)
  | 61 => some (1, 1000, sp_FrameStreams_requireStreamOrConnection, 1, 6)
  | 65 => some (1, 3, sp_End_nextStream, 0, 0)
  | 68 => some (2, 3, sp_End_find, 0, 0)
  | 72 => some (1, 6, sp_Stream_maySend, 0, 0)
  | 77 => some (1, 3, sp_End_prepareBlock, 0, 0)
  | 80 => some (3, 3, sp_End_sendHeaders, 0, 0)
  | _ => none
theorem co_FrameStreams_headers : ∀ a v, ct_FrameStreams_headers a = some v → StcOK R_FrameStreams 8 138 a v := by
  intro a v h
  unfold ct_FrameStreams_headers at h
  split at h
  · cases h; exact ⟨y_FrameStreams_requireWithin, b_FrameStreams_requireWithin, 3, none, 7, 109, 3, c_FrameStreams_requireWithin, by decide, by decide +kernel, by decide +kernel, by decide +kernel, (by first | exact Or.inr (Or.inl ⟨rfl, rfl, by decide +kernel, by decide +kernel⟩) | exact Or.inr (Or.inr ⟨rfl, rfl, ⟨"FrameStreams", by decide +kernel⟩, by decide +kernel⟩))⟩
  · cases h; exact ⟨y_FrameStreams_requireState, b_FrameStreams_requireState, 1, none, 6, 89, 1, c_FrameStreams_requireState, by decide, by decide +kernel, by decide +kernel, by decide +kernel, (by first | exact Or.inr (Or.inl ⟨rfl, rfl, by decide +kernel, by decide +kernel⟩) | exact Or.inr (Or.inr ⟨rfl, rfl, ⟨"FrameStreams", by decide +kernel⟩, by decide +kernel⟩))⟩
  · cases h; exact ⟨y_FrameStreams_requireStreamOrConnection, b_FrameStreams_requireStreamOrConnection, 1, none, 7, 109, 1, c_FrameStreams_requireStreamOrConnection, by decide, by decide +kernel, by decide +kernel, by decide +kernel, (by first | exact Or.inr (Or.inl ⟨rfl, rfl, by decide +kernel, by decide +kernel⟩) | exact Or.inr (Or.inr ⟨rfl, rfl, ⟨"FrameStreams", by decide +kernel⟩, by decide +kernel⟩))⟩
  · cases h; exact ⟨y_End_nextStream, b_End_nextStream, 2, (some .int), 3, 62, 0, c_End_nextStream, by decide, by decide +kernel, by decide +kernel, by decide +kernel, Or.inl ⟨rfl, by decide, by decide +kernel, by decide +kernel, _, _, rfl, by decide +kernel⟩⟩
  · cases h; exact ⟨y_End_find, b_End_find, 2, (some (.object "FrameStreams$Stream")), 1, 20, 1, c_End_find, by decide, by decide +kernel, by decide +kernel, by decide +kernel, Or.inl ⟨rfl, by decide, by decide +kernel, by decide +kernel, _, _, rfl, by decide +kernel⟩⟩
  · cases h; exact ⟨y_Stream_maySend, b_Stream_maySend, 1, (some .boolean), 0, 0, 0, c_Stream_maySend, by decide, by decide +kernel, by decide +kernel, by decide +kernel, Or.inl ⟨rfl, by decide, by decide +kernel, by decide +kernel, _, _, rfl, by decide +kernel⟩⟩
  · cases h; exact ⟨y_End_prepareBlock, b_End_prepareBlock, 1, (some .boolean), 5, 118, 0, c_End_prepareBlock, by decide, by decide +kernel, by decide +kernel, by decide +kernel, Or.inl ⟨rfl, by decide, by decide +kernel, by decide +kernel, _, _, rfl, by decide +kernel⟩⟩
  · cases h; exact ⟨y_End_sendHeaders, b_End_sendHeaders, 5, none, 3, 67, 2, c_End_sendHeaders, by decide, by decide +kernel, by decide +kernel, by decide +kernel, Or.inl ⟨rfl, by decide, by decide +kernel, by decide +kernel, _, _, rfl, by decide +kernel⟩⟩
  · cases h
/-- FrameStreams_headers -/
def sp_FrameStreams_headers : CSp := sRIII (fun q x0 x1 x2 σ K kx => q.1 = 0 ∧ (rI x0 ∧ rI x1 ∧ rI x2) ∧ IV σ ∧ pubK σ K ∧ pubX σ kx)
set_option maxHeartbeats 4000000 in
set_option maxRecDepth 100000 in
theorem c_FrameStreams_headers : Ctr y_FrameStreams_headers b_FrameStreams_headers 6 (some .int) 8 138 5 30 sp_FrameStreams_headers := by
  refine ctr_of (FT := ft_FrameStreams) (GT := gt_FrameStreams_headers) (CT := ct_FrameStreams_headers) (sw := sw_FrameStreams_headers) (rt := 0) (pr := pr_FrameStreams_headers) (by decide) [] (fun _ _ _ _ _ _ _ _ _ _ _ => False) 60 ⟨fun _ => rfl, fun h => absurd h (by decide), fun h => absurd h (by decide), fun h => absurd h (by decide)⟩ dk_FrameStreams_headers fo_FrameStreams go_FrameStreams_headers co_FrameStreams_headers (fun a k h hk => by unfold gt_FrameStreams_headers at h; cases h) (fun q hq h => absurd h (nt_FrameStreams_headers q hq)) (fun av σ K kx h => by rw [sRIII_len h]; decide) ?_ ?_
  · intro av σ K kx hok hSp
    obtain ⟨q0, x0, x1, x2, rfl, hp⟩ := sRIII_inv hSp
    obtain ⟨k0, e0, i0⟩ := q0
    obtain ⟨h0, hr, hI, hpk, hpx⟩ := hp
    dsimp only at h0; subst h0
    simp only [rI] at hr
    have o1 : 0 ≤ σ 7 (tgt (7, 3) 0 0 (nrm x0).toNat).2.1 (tgt (7, 3) 0 0 (nrm x0).toNat).2.2 10 ∧ σ 7 (tgt (7, 3) 0 0 (nrm x0).toNat).2.1 (tgt (7, 3) 0 0 (nrm x0).toNat).2.2 10 ≤ 7 := hI 7 (nrm x0).toNat 0 10
    all_goals (repeat' (first | (with_reducible assumption) | (with_reducible (apply by8_9; assumption)) | (with_reducible (apply by8_4; assumption)) | (with_reducible (apply by8_22; assumption)) | (with_reducible (apply by8_g; assumption)) | (with_reducible (apply rg34_of <;> assumption)) | (with_reducible refine rg_max ?_ ?_) | (with_reducible refine IV_upd ?_ ?_) | (with_reducible refine IV_cpy ?_ (fun _ _ _ _ => trivial)) | (refine And.intro ?_ ?_) | (intro h9; first | exact absurd h9 (by decide) | contradiction | skip)))
    all_goals first | (apply un_op <;> assumption) | (exfalso; apply un_st <;> assumption) | (refine pk hpk ?_ ?_ <;> (repeat' (first | assumption | exact trivial | exact Un_rf | (apply by8_4; assumption) | (apply by8_9; assumption) | (apply by8_22; assumption) | (apply by8_g; assumption) | (refine by8_13 ?_) | (apply rg34_of <;> assumption) | (refine rg_max ?_ ?_) | (apply rg_34; assumption) | (refine ixr_by8 ?_ ?_) | (refine IV_upd ?_ ?_) | (refine Un_upd rfl ?_) | (refine IV_cpy ?_ (fun _ _ _ _ => trivial)) | (refine Un_cpy rfl ?_) | (apply Un_tr; rotate_left; assumption; rfl) | (refine And.intro ?_ ?_))) <;> (first | rfl | decide | exact Or.inl rfl | exact Or.inr (Or.inl rfl) | exact Or.inr (Or.inr rfl) | (simp only [nrm, strm, by8] at * <;> omega) | (simp [upd4, cpy4, nrm, strm, by8] at * <;> omega))) | (refine px1 hpx ?_ ?_ <;> (repeat' (first | assumption | exact trivial | exact Un_rf | (apply by8_4; assumption) | (apply by8_9; assumption) | (apply by8_22; assumption) | (apply by8_g; assumption) | (refine by8_13 ?_) | (apply rg34_of <;> assumption) | (refine rg_max ?_ ?_) | (apply rg_34; assumption) | (refine ixr_by8 ?_ ?_) | (refine IV_upd ?_ ?_) | (refine Un_upd rfl ?_) | (refine IV_cpy ?_ (fun _ _ _ _ => trivial)) | (refine Un_cpy rfl ?_) | (apply Un_tr; rotate_left; assumption; rfl) | (refine And.intro ?_ ?_))) <;> (first | rfl | decide | exact Or.inl rfl | exact Or.inr (Or.inl rfl) | exact Or.inr (Or.inr rfl) | (simp only [nrm, strm, by8] at * <;> omega) | (simp [upd4, cpy4, nrm, strm, by8] at * <;> omega))) | (refine px2 hpx ?_ ?_ <;> (repeat' (first | assumption | exact trivial | exact Un_rf | (apply by8_4; assumption) | (apply by8_9; assumption) | (apply by8_22; assumption) | (apply by8_g; assumption) | (refine by8_13 ?_) | (apply rg34_of <;> assumption) | (refine rg_max ?_ ?_) | (apply rg_34; assumption) | (refine ixr_by8 ?_ ?_) | (refine IV_upd ?_ ?_) | (refine Un_upd rfl ?_) | (refine IV_cpy ?_ (fun _ _ _ _ => trivial)) | (refine Un_cpy rfl ?_) | (apply Un_tr; rotate_left; assumption; rfl) | (refine And.intro ?_ ?_))) <;> (first | rfl | decide | exact Or.inl rfl | exact Or.inr (Or.inl rfl) | exact Or.inr (Or.inr rfl) | (simp only [nrm, strm, by8] at * <;> omega) | (simp [upd4, cpy4, nrm, strm, by8] at * <;> omega))) | (refine px3 hpx ?_ ?_ <;> (repeat' (first | assumption | exact trivial | exact Un_rf | (apply by8_4; assumption) | (apply by8_9; assumption) | (apply by8_22; assumption) | (apply by8_g; assumption) | (refine by8_13 ?_) | (apply rg34_of <;> assumption) | (refine rg_max ?_ ?_) | (apply rg_34; assumption) | (refine ixr_by8 ?_ ?_) | (refine IV_upd ?_ ?_) | (refine Un_upd rfl ?_) | (refine IV_cpy ?_ (fun _ _ _ _ => trivial)) | (refine Un_cpy rfl ?_) | (apply Un_tr; rotate_left; assumption; rfl) | (refine And.intro ?_ ?_))) <;> (first | rfl | decide | exact Or.inl rfl | exact Or.inr (Or.inl rfl) | exact Or.inr (Or.inr rfl) | (simp only [nrm, strm, by8] at * <;> omega) | (simp [upd4, cpy4, nrm, strm, by8] at * <;> omega))) | (refine px4 hpx ?_ ?_ <;> (repeat' (first | assumption | exact trivial | exact Un_rf | (apply by8_4; assumption) | (apply by8_9; assumption) | (apply by8_22; assumption) | (apply by8_g; assumption) | (refine by8_13 ?_) | (apply rg34_of <;> assumption) | (refine rg_max ?_ ?_) | (apply rg_34; assumption) | (refine ixr_by8 ?_ ?_) | (refine IV_upd ?_ ?_) | (refine Un_upd rfl ?_) | (refine IV_cpy ?_ (fun _ _ _ _ => trivial)) | (refine Un_cpy rfl ?_) | (apply Un_tr; rotate_left; assumption; rfl) | (refine And.intro ?_ ?_))) <;> (first | rfl | decide | exact Or.inl rfl | exact Or.inr (Or.inl rfl) | exact Or.inr (Or.inr rfl) | (simp only [nrm, strm, by8] at * <;> omega) | (simp [upd4, cpy4, nrm, strm, by8] at * <;> omega))) | (first | rfl | decide | exact Or.inl rfl | exact Or.inr (Or.inl rfl) | exact Or.inr (Or.inr rfl) | (simp only [nrm, strm, by8] at * <;> omega) | (simp [upd4, cpy4, nrm, strm, by8] at * <;> omega)) | ((repeat' (first | assumption | exact trivial | exact Un_rf | (apply by8_4; assumption) | (apply by8_9; assumption) | (apply by8_22; assumption) | (apply by8_g; assumption) | (refine by8_13 ?_) | (apply rg34_of <;> assumption) | (refine rg_max ?_ ?_) | (apply rg_34; assumption) | (refine ixr_by8 ?_ ?_) | (refine IV_upd ?_ ?_) | (refine Un_upd rfl ?_) | (refine IV_cpy ?_ (fun _ _ _ _ => trivial)) | (refine Un_cpy rfl ?_) | (apply Un_tr; rotate_left; assumption; rfl) | (refine And.intro ?_ ?_))) <;> (first | rfl | decide | exact Or.inl rfl | exact Or.inr (Or.inl rfl) | exact Or.inr (Or.inr rfl) | (simp only [nrm, strm, by8] at * <;> omega) | (simp [upd4, cpy4, nrm, strm, by8] at * <;> omega)))
  · intro av σ K kx n pc L st σ' nc ns _ _ h
    exact (h : False).elim
end
section
def gt_FrameStreams_data (a : Nat) : Option Nat := match a with
  | _ => none
theorem go_FrameStreams_data : ∀ a v, gt_FrameStreams_data a = some v → StaOK R_FrameStreams a v := by
  intro a v h
  unfold gt_FrameStreams_data at h
  cases h
def pr_FrameStreams_data : List Ent := [(0, 3, 1, 0, 0), (1, 0, 0, 0, 0), (2, 0, 0, 1, 0), (3, 47, 25, 0, 0), (6, 3, 2, 0, 0), (7, 47, 84, 0, 0), (10, 3, 3, 0, 0), (11, 0, 0, 0, 0), (12, 1, 0, 20, 0), (14, 47, 25, 0, 0), (17, 4, 4, 0, 0), (19, 0, 0, 0, 0), (20, 2, 0, 255, 0), (23, 47, 25, 0, 0), (26, 5, 0, 0, 0), (27, 39, 15, 0, 0), (30, 3, 1, 0, 0), (31, 43, 0, 0, 0), (32, 10, 6, 0, 0), (34, 6, 6, 0, 0), (36, 3, 3, 0, 0), (37, 46, 87, 0, 0), (40, 47, 35, 0, 0), (43, 6, 6, 0, 0), (45, 3, 2, 0, 0), (46, 46, 68, 0, 0), (49, 46, 72, 0, 0), (52, 47, 35, 0, 0), (55, 6, 6, 0, 0), (57, 3, 2, 0, 0), (58, 46, 68, 0, 0), (61, 46, 90, 0, 0), (64, 3, 3, 0, 0), (65, 34, 0, 0, 85), (68, 6, 6, 0, 0), (70, 0, 0, 0, 0), (71, 46, 68, 0, 0), (74, 46, 90, 0, 0), (77, 3, 3, 0, 0), (78, 34, 0, 0, 85), (81, 0, 0, 1, 0), (82, 38, 0, 0, 86), (85, 0, 0, 0, 0), (86, 47, 35, 0, 0), (89, 6, 6, 0, 0), (91, 3, 2, 0, 0), (92, 3, 3, 0, 0), (93, 4, 4, 0, 0), (95, 4, 5, 0, 0), (97, 46, 93, 0, 0), (100, 6, 6, 0, 0), (102, 3, 2, 0, 0), (103, 46, 68, 0, 0), (106, 46, 90, 0, 0), (109, 48, 0, 0, 0)]
def sw_FrameStreams_data : List Swt := []
theorem dk_FrameStreams_data : ∀ q ∈ pr_FrameStreams_data, decode b_FrameStreams_data q.1 = .ok (dec sw_FrameStreams_data q) ∧ okE q = true := by decide +kernel
theorem nt_FrameStreams_data : ∀ q ∈ pr_FrameStreams_data, ¬ q.2.1 = 55 := by decide +kernel
def ct_FrameStreams_data (a : Nat) : Option (Nat × Nat × CSp × Nat × Nat) := match a with
  | 25 => some (3, 1000, sp_FrameStreams_requireWithin, 1, 6)
  | 35 => some (1, 1000, sp_FrameStreams_requireState, 1, 6)
  | 68 => some (2, 3, sp_End_find, 0, 0)
  | 72 => some (1, 6, sp_Stream_maySend, 0, 0)
  | 84 => some (1, 1000, sp_FrameStreams_requireStream, 1, 6)
  | 87 => some (2, 3, sp_End_maySend, 0, 0)
  | 90 => some (1, 6, sp_Stream_room, 0, 0)
  | 93 => some (5, 3, sp_End_sendData, 0, 0)
  | _ => none
theorem co_FrameStreams_data : ∀ a v, ct_FrameStreams_data a = some v → StcOK R_FrameStreams 8 131 a v := by
  intro a v h
  unfold ct_FrameStreams_data at h
  split at h
  · cases h; exact ⟨y_FrameStreams_requireWithin, b_FrameStreams_requireWithin, 3, none, 7, 109, 3, c_FrameStreams_requireWithin, by decide, by decide +kernel, by decide +kernel, by decide +kernel, (by first | exact Or.inr (Or.inl ⟨rfl, rfl, by decide +kernel, by decide +kernel⟩) | exact Or.inr (Or.inr ⟨rfl, rfl, ⟨"FrameStreams", by decide +kernel⟩, by decide +kernel⟩))⟩
  · cases h; exact ⟨y_FrameStreams_requireState, b_FrameStreams_requireState, 1, none, 6, 89, 1, c_FrameStreams_requireState, by decide, by decide +kernel, by decide +kernel, by decide +kernel, (by first | exact Or.inr (Or.inl ⟨rfl, rfl, by decide +kernel, by decide +kernel⟩) | exact Or.inr (Or.inr ⟨rfl, rfl, ⟨"FrameStreams", by decide +kernel⟩, by decide +kernel⟩))⟩
  · cases h; exact ⟨y_End_find, b_End_find, 2, (some (.object "FrameStreams$Stream")), 1, 20, 1, c_End_find, by decide, by decide +kernel, by decide +kernel, by decide +kernel, Or.inl ⟨rfl, by decide, by decide +kernel, by decide +kernel, _, _, rfl, by decide +kernel⟩⟩
  · cases h; exact ⟨y_Stream_maySend, b_Stream_maySend, 1, (some .boolean), 0, 0, 0, c_Stream_maySend, by decide, by decide +kernel, by decide +kernel, by decide +kernel, Or.inl ⟨rfl, by decide, by decide +kernel, by decide +kernel, _, _, rfl, by decide +kernel⟩⟩
  · cases h; exact ⟨y_FrameStreams_requireStream, b_FrameStreams_requireStream, 1, none, 7, 109, 1, c_FrameStreams_requireStream, by decide, by decide +kernel, by decide +kernel, by decide +kernel, (by first | exact Or.inr (Or.inl ⟨rfl, rfl, by decide +kernel, by decide +kernel⟩) | exact Or.inr (Or.inr ⟨rfl, rfl, ⟨"FrameStreams", by decide +kernel⟩, by decide +kernel⟩))⟩
  · cases h; exact ⟨y_End_maySend, b_End_maySend, 2, (some .boolean), 1, 21, 1, c_End_maySend, by decide, by decide +kernel, by decide +kernel, by decide +kernel, Or.inl ⟨rfl, by decide, by decide +kernel, by decide +kernel, _, _, rfl, by decide +kernel⟩⟩
  · cases h; exact ⟨y_Stream_room, b_Stream_room, 1, (some .int), 0, 0, 0, c_Stream_room, by decide, by decide +kernel, by decide +kernel, by decide +kernel, Or.inl ⟨rfl, by decide, by decide +kernel, by decide +kernel, _, _, rfl, by decide +kernel⟩⟩
  · cases h; exact ⟨y_End_sendData, b_End_sendData, 7, none, 2, 45, 4, c_End_sendData, by decide, by decide +kernel, by decide +kernel, by decide +kernel, Or.inl ⟨rfl, by decide, by decide +kernel, by decide +kernel, _, _, rfl, by decide +kernel⟩⟩
  · cases h
/-- FrameStreams_data -/
def sp_FrameStreams_data : CSp := sRIIIII (fun q x0 x1 x2 x3 x4 σ K kx => q.1 = 0 ∧ (rI x0 ∧ rI x1 ∧ rI x2 ∧ rI x3 ∧ rI x4) ∧ IV σ ∧ pubK σ K ∧ pubX σ kx)
set_option maxHeartbeats 4000000 in
set_option maxRecDepth 100000 in
theorem c_FrameStreams_data : Ctr y_FrameStreams_data b_FrameStreams_data 7 (some .int) 8 131 7 42 sp_FrameStreams_data := by
  refine ctr_of (FT := ft_FrameStreams) (GT := gt_FrameStreams_data) (CT := ct_FrameStreams_data) (sw := sw_FrameStreams_data) (rt := 0) (pr := pr_FrameStreams_data) (by decide) [] (fun _ _ _ _ _ _ _ _ _ _ _ => False) 70 ⟨fun _ => rfl, fun h => absurd h (by decide), fun h => absurd h (by decide), fun h => absurd h (by decide)⟩ dk_FrameStreams_data fo_FrameStreams go_FrameStreams_data co_FrameStreams_data (fun a k h hk => by unfold gt_FrameStreams_data at h; cases h) (fun q hq h => absurd h (nt_FrameStreams_data q hq)) (fun av σ K kx h => by rw [sRIIIII_len h]; decide) ?_ ?_
  · intro av σ K kx hok hSp
    obtain ⟨q0, x0, x1, x2, x3, x4, rfl, hp⟩ := sRIIIII_inv hSp
    obtain ⟨k0, e0, i0⟩ := q0
    obtain ⟨h0, hr, hI, hpk, hpx⟩ := hp
    dsimp only at h0; subst h0
    simp only [rI] at hr
    all_goals (repeat' (first | (with_reducible assumption) | (with_reducible (apply by8_9; assumption)) | (with_reducible (apply by8_4; assumption)) | (with_reducible (apply by8_22; assumption)) | (with_reducible (apply by8_g; assumption)) | (with_reducible (apply rg34_of <;> assumption)) | (with_reducible refine rg_max ?_ ?_) | (with_reducible refine IV_upd ?_ ?_) | (with_reducible refine IV_cpy ?_ (fun _ _ _ _ => trivial)) | (refine And.intro ?_ ?_) | (intro h9; first | exact absurd h9 (by decide) | contradiction | skip)))
    all_goals first | (refine pk hpk ?_ ?_ <;> (repeat' (first | assumption | exact trivial | exact Un_rf | (apply by8_4; assumption) | (apply by8_9; assumption) | (apply by8_22; assumption) | (apply by8_g; assumption) | (refine by8_13 ?_) | (apply rg34_of <;> assumption) | (refine rg_max ?_ ?_) | (apply rg_34; assumption) | (refine ixr_by8 ?_ ?_) | (refine IV_upd ?_ ?_) | (refine Un_upd rfl ?_) | (refine IV_cpy ?_ (fun _ _ _ _ => trivial)) | (refine Un_cpy rfl ?_) | (apply Un_tr; rotate_left; assumption; rfl) | (refine And.intro ?_ ?_))) <;> (first | rfl | decide | exact Or.inl rfl | exact Or.inr (Or.inl rfl) | exact Or.inr (Or.inr rfl) | (simp only [nrm, strm, by8] at * <;> omega) | (simp [upd4, cpy4, nrm, strm, by8] at * <;> omega))) | (refine px1 hpx ?_ ?_ <;> (repeat' (first | assumption | exact trivial | exact Un_rf | (apply by8_4; assumption) | (apply by8_9; assumption) | (apply by8_22; assumption) | (apply by8_g; assumption) | (refine by8_13 ?_) | (apply rg34_of <;> assumption) | (refine rg_max ?_ ?_) | (apply rg_34; assumption) | (refine ixr_by8 ?_ ?_) | (refine IV_upd ?_ ?_) | (refine Un_upd rfl ?_) | (refine IV_cpy ?_ (fun _ _ _ _ => trivial)) | (refine Un_cpy rfl ?_) | (apply Un_tr; rotate_left; assumption; rfl) | (refine And.intro ?_ ?_))) <;> (first | rfl | decide | exact Or.inl rfl | exact Or.inr (Or.inl rfl) | exact Or.inr (Or.inr rfl) | (simp only [nrm, strm, by8] at * <;> omega) | (simp [upd4, cpy4, nrm, strm, by8] at * <;> omega))) | (refine px2 hpx ?_ ?_ <;> (repeat' (first | assumption | exact trivial | exact Un_rf | (apply by8_4; assumption) | (apply by8_9; assumption) | (apply by8_22; assumption) | (apply by8_g; assumption) | (refine by8_13 ?_) | (apply rg34_of <;> assumption) | (refine rg_max ?_ ?_) | (apply rg_34; assumption) | (refine ixr_by8 ?_ ?_) | (refine IV_upd ?_ ?_) | (refine Un_upd rfl ?_) | (refine IV_cpy ?_ (fun _ _ _ _ => trivial)) | (refine Un_cpy rfl ?_) | (apply Un_tr; rotate_left; assumption; rfl) | (refine And.intro ?_ ?_))) <;> (first | rfl | decide | exact Or.inl rfl | exact Or.inr (Or.inl rfl) | exact Or.inr (Or.inr rfl) | (simp only [nrm, strm, by8] at * <;> omega) | (simp [upd4, cpy4, nrm, strm, by8] at * <;> omega))) | (refine px3 hpx ?_ ?_ <;> (repeat' (first | assumption | exact trivial | exact Un_rf | (apply by8_4; assumption) | (apply by8_9; assumption) | (apply by8_22; assumption) | (apply by8_g; assumption) | (refine by8_13 ?_) | (apply rg34_of <;> assumption) | (refine rg_max ?_ ?_) | (apply rg_34; assumption) | (refine ixr_by8 ?_ ?_) | (refine IV_upd ?_ ?_) | (refine Un_upd rfl ?_) | (refine IV_cpy ?_ (fun _ _ _ _ => trivial)) | (refine Un_cpy rfl ?_) | (apply Un_tr; rotate_left; assumption; rfl) | (refine And.intro ?_ ?_))) <;> (first | rfl | decide | exact Or.inl rfl | exact Or.inr (Or.inl rfl) | exact Or.inr (Or.inr rfl) | (simp only [nrm, strm, by8] at * <;> omega) | (simp [upd4, cpy4, nrm, strm, by8] at * <;> omega))) | (refine px4 hpx ?_ ?_ <;> (repeat' (first | assumption | exact trivial | exact Un_rf | (apply by8_4; assumption) | (apply by8_9; assumption) | (apply by8_22; assumption) | (apply by8_g; assumption) | (refine by8_13 ?_) | (apply rg34_of <;> assumption) | (refine rg_max ?_ ?_) | (apply rg_34; assumption) | (refine ixr_by8 ?_ ?_) | (refine IV_upd ?_ ?_) | (refine Un_upd rfl ?_) | (refine IV_cpy ?_ (fun _ _ _ _ => trivial)) | (refine Un_cpy rfl ?_) | (apply Un_tr; rotate_left; assumption; rfl) | (refine And.intro ?_ ?_))) <;> (first | rfl | decide | exact Or.inl rfl | exact Or.inr (Or.inl rfl) | exact Or.inr (Or.inr rfl) | (simp only [nrm, strm, by8] at * <;> omega) | (simp [upd4, cpy4, nrm, strm, by8] at * <;> omega))) | (first | rfl | decide | exact Or.inl rfl | exact Or.inr (Or.inl rfl) | exact Or.inr (Or.inr rfl) | (simp only [nrm, strm, by8] at * <;> omega) | (simp [upd4, cpy4, nrm, strm, by8] at * <;> omega)) | ((repeat' (first | assumption | exact trivial | exact Un_rf | (apply by8_4; assumption) | (apply by8_9; assumption) | (apply by8_22; assumption) | (apply by8_g; assumption) | (refine by8_13 ?_) | (apply rg34_of <;> assumption) | (refine rg_max ?_ ?_) | (apply rg_34; assumption) | (refine ixr_by8 ?_ ?_) | (refine IV_upd ?_ ?_) | (refine Un_upd rfl ?_) | (refine IV_cpy ?_ (fun _ _ _ _ => trivial)) | (refine Un_cpy rfl ?_) | (apply Un_tr; rotate_left; assumption; rfl) | (refine And.intro ?_ ?_))) <;> (first | rfl | decide | exact Or.inl rfl | exact Or.inr (Or.inl rfl) | exact Or.inr (Or.inr rfl) | (simp only [nrm, strm, by8] at * <;> omega) | (simp [upd4, cpy4, nrm, strm, by8] at * <;> omega)))
  · intro av σ K kx n pc L st σ' nc ns _ _ h
    exact (h : False).elim
end
section
def gt_End_hearHeaders (a : Nat) : Option Nat := match a with
  | 219 => some 302
  | _ => none
theorem go_End_hearHeaders : ∀ a v, gt_End_hearHeaders a = some v → StaOK R_End a v := by
  intro a v h
  unfold gt_End_hearHeaders at h
  split at h
  · cases h; exact ⟨fun h => absurd h (by decide), fun _ => by decide +kernel, fun h => absurd h (by decide), fun h => absurd h (by decide)⟩
  · cases h
def pr_End_hearHeaders : List Ent := [(0, 5, 0, 0, 0), (1, 39, 85, 0, 0), (4, 5, 0, 0, 0), (5, 39, 40, 0, 0), (8, 0, 0, 0, 0), (9, 41, 0, 0, 0), (10, 46, 213, 0, 0), (13, 27, 0, 0, 19), (16, 1, 0, 9, 0), (18, 48, 0, 0, 0), (19, 5, 0, 0, 0), (20, 39, 76, 0, 0), (23, 46, 216, 0, 0), (26, 7, 1, 0, 0), (27, 5, 0, 0, 0), (28, 3, 1, 0, 0), (29, 46, 124, 0, 0), (32, 9, 2, 0, 0), (33, 5, 2, 0, 0), (34, 46, 128, 0, 0), (37, 7, 3, 0, 0), (38, 3, 3, 0, 0), (39, 26, 0, 0, 59), (42, 5, 0, 0, 0), (43, 39, 62, 0, 0), (46, 27, 0, 0, 57), (49, 3, 1, 0, 0), (50, 5, 0, 0, 0), (51, 39, 50, 0, 0), (54, 36, 0, 0, 59), (57, 0, 0, 1, 0), (58, 48, 0, 0, 0), (59, 5, 0, 0, 0), (60, 5, 0, 0, 0), (61, 39, 50, 0, 0), (64, 3, 1, 0, 0), (65, 53, 219, 0, 0), (68, 40, 50, 0, 0), (71, 3, 3, 0, 0), (72, 26, 0, 0, 124), (75, 5, 0, 0, 0), (76, 46, 110, 0, 0), (79, 5, 0, 0, 0), (80, 39, 40, 0, 0), (83, 0, 0, 2, 0), (84, 41, 0, 0, 0), (85, 34, 0, 0, 92), (88, 0, 0, 1, 0), (89, 38, 0, 0, 93), (92, 0, 0, 0, 0), (93, 8, 4, 0, 0), (95, 5, 2, 0, 0), (96, 5, 0, 0, 0), (97, 39, 43, 0, 0), (100, 0, 0, 1, 0), (101, 41, 0, 0, 0), (102, 5, 0, 0, 0), (103, 39, 40, 0, 0), (106, 0, 0, 1, 0), (107, 41, 0, 0, 0), (108, 46, 90, 0, 0), (111, 4, 4, 0, 0), (113, 26, 0, 0, 124), (116, 5, 0, 0, 0), (117, 3, 1, 0, 0), (118, 1, 0, 7, 0), (120, 46, 225, 0, 0), (123, 48, 0, 0, 0), (124, 5, 2, 0, 0), (125, 46, 228, 0, 0), (128, 27, 0, 0, 138), (131, 5, 0, 0, 0), (132, 3, 1, 0, 0), (133, 0, 0, 5, 0), (134, 46, 225, 0, 0), (137, 48, 0, 0, 0), (138, 5, 2, 0, 0), (139, 46, 231, 0, 0), (142, 5, 0, 0, 0), (143, 39, 85, 0, 0), (146, 46, 235, 0, 0), (149, 46, 236, 0, 0), (152, 5, 0, 0, 0), (153, 39, 76, 0, 0), (156, 46, 240, 0, 0), (159, 26, 0, 0, 166), (162, 5, 2, 0, 0), (163, 46, 243, 0, 0), (166, 0, 0, 0, 0), (167, 48, 0, 0, 0)]
def sw_End_hearHeaders : List Swt := []
theorem dk_End_hearHeaders : ∀ q ∈ pr_End_hearHeaders, decode b_End_hearHeaders q.1 = .ok (dec sw_End_hearHeaders q) ∧ okE q = true := by decide +kernel
theorem nt_End_hearHeaders : ∀ q ∈ pr_End_hearHeaders, ¬ q.2.1 = 55 := by decide +kernel
def ct_End_hearHeaders (a : Nat) : Option (Nat × Nat × CSp × Nat × Nat) := match a with
  | 90 => some (3, 6, sp_Stream_open, 0, 0)
  | 110 => some (1, 3, sp_End_liveStreams, 0, 0)
  | 124 => some (2, 3, sp_End_find, 0, 0)
  | 128 => some (1, 6, sp_Stream_isIdle, 0, 0)
  | 213 => some (2, 1, sp_BlockReader_read, 0, 0)
  | 216 => some (1, 5, sp_Frame_streamNumber, 0, 0)
  | 225 => some (3, 3, sp_End_closeBy, 0, 0)
  | 228 => some (1, 6, sp_Stream_mayHear, 0, 0)
  | 231 => some (1, 6, sp_Stream_fields, 0, 0)
  | 235 => some (1, 1, sp_BlockReader_fields, 0, 0)
  | 236 => some (2, 4, sp_Fields_copyFrom, 0, 0)
  | 240 => some (1, 5, sp_Frame_isFlagged, 0, 0)
  | 243 => some (1, 6, sp_Stream_hearLast, 0, 0)
  | _ => none
theorem co_End_hearHeaders : ∀ a v, ct_End_hearHeaders a = some v → StcOK R_End 5 118 a v := by
  intro a v h
  unfold ct_End_hearHeaders at h
  split at h
  · cases h; exact ⟨y_Stream_open, b_Stream_open, 3, none, 0, 0, 2, c_Stream_open, by decide, by decide +kernel, by decide +kernel, by decide +kernel, Or.inl ⟨rfl, by decide, by decide +kernel, by decide +kernel, _, _, rfl, by decide +kernel⟩⟩
  · cases h; exact ⟨y_End_liveStreams, b_End_liveStreams, 3, (some .int), 2, 40, 0, c_End_liveStreams, by decide, by decide +kernel, by decide +kernel, by decide +kernel, Or.inl ⟨rfl, by decide, by decide +kernel, by decide +kernel, _, _, rfl, by decide +kernel⟩⟩
  · cases h; exact ⟨y_End_find, b_End_find, 2, (some (.object "FrameStreams$Stream")), 1, 20, 1, c_End_find, by decide, by decide +kernel, by decide +kernel, by decide +kernel, Or.inl ⟨rfl, by decide, by decide +kernel, by decide +kernel, _, _, rfl, by decide +kernel⟩⟩
  · cases h; exact ⟨y_Stream_isIdle, b_Stream_isIdle, 1, (some .boolean), 0, 0, 0, c_Stream_isIdle, by decide, by decide +kernel, by decide +kernel, by decide +kernel, Or.inl ⟨rfl, by decide, by decide +kernel, by decide +kernel, _, _, rfl, by decide +kernel⟩⟩
  · cases h; exact ⟨y_BlockReader_read, b_BlockReader_read, 3, (some .boolean), 4, 96, 1, c_BlockReader_read, by decide, by decide +kernel, by decide +kernel, by decide +kernel, Or.inl ⟨rfl, by decide, by decide +kernel, by decide +kernel, _, _, rfl, by decide +kernel⟩⟩
  · cases h; exact ⟨y_Frame_streamNumber, b_Frame_streamNumber, 1, (some .int), 0, 0, 0, c_Frame_streamNumber, by decide, by decide +kernel, by decide +kernel, by decide +kernel, Or.inl ⟨rfl, by decide, by decide +kernel, by decide +kernel, _, _, rfl, by decide +kernel⟩⟩
  · cases h; exact ⟨y_End_closeBy, b_End_closeBy, 3, (some .int), 3, 69, 2, c_End_closeBy, by decide, by decide +kernel, by decide +kernel, by decide +kernel, Or.inl ⟨rfl, by decide, by decide +kernel, by decide +kernel, _, _, rfl, by decide +kernel⟩⟩
  · cases h; exact ⟨y_Stream_mayHear, b_Stream_mayHear, 1, (some .boolean), 0, 0, 0, c_Stream_mayHear, by decide, by decide +kernel, by decide +kernel, by decide +kernel, Or.inl ⟨rfl, by decide, by decide +kernel, by decide +kernel, _, _, rfl, by decide +kernel⟩⟩
  · cases h; exact ⟨y_Stream_fields, b_Stream_fields, 1, (some (.object "FrameStreams$Fields")), 0, 0, 0, c_Stream_fields, by decide, by decide +kernel, by decide +kernel, by decide +kernel, Or.inl ⟨rfl, by decide, by decide +kernel, by decide +kernel, _, _, rfl, by decide +kernel⟩⟩
  · cases h; exact ⟨y_BlockReader_fields, b_BlockReader_fields, 1, (some (.object "FrameStreams$Fields")), 0, 0, 0, c_BlockReader_fields, by decide, by decide +kernel, by decide +kernel, by decide +kernel, Or.inl ⟨rfl, by decide, by decide +kernel, by decide +kernel, _, _, rfl, by decide +kernel⟩⟩
  · cases h; exact ⟨y_Fields_copyFrom, b_Fields_copyFrom, 2, none, 1, 26, 1, c_Fields_copyFrom, by decide, by decide +kernel, by decide +kernel, by decide +kernel, Or.inl ⟨rfl, by decide, by decide +kernel, by decide +kernel, _, _, rfl, by decide +kernel⟩⟩
  · cases h; exact ⟨y_Frame_isFlagged, b_Frame_isFlagged, 1, (some .boolean), 0, 0, 0, c_Frame_isFlagged, by decide, by decide +kernel, by decide +kernel, by decide +kernel, Or.inl ⟨rfl, by decide, by decide +kernel, by decide +kernel, _, _, rfl, by decide +kernel⟩⟩
  · cases h; exact ⟨y_Stream_hearLast, b_Stream_hearLast, 1, none, 0, 0, 0, c_Stream_hearLast, by decide, by decide +kernel, by decide +kernel, by decide +kernel, Or.inl ⟨rfl, by decide, by decide +kernel, by decide +kernel, _, _, rfl, by decide +kernel⟩⟩
  · cases h
/-- End_hearHeaders -/
def sp_End_hearHeaders : CSp := sR (fun q σ K _ => q.1 = 7 ∧ IV σ ∧ ∀ r σ', by8 r → IV σ' → Un [3, 4, 7, 23, 24, 25, 26, 27, 28, 29, 30, 32, 35, 36, 37] σ σ' → K (some (.inl r)) σ')
set_option maxHeartbeats 4000000 in
set_option maxRecDepth 100000 in
theorem c_End_hearHeaders : Ctr y_End_hearHeaders b_End_hearHeaders 5 (some .int) 5 118 0 0 sp_End_hearHeaders := by
  refine ctr_of (FT := ft_End) (GT := gt_End_hearHeaders) (CT := ct_End_hearHeaders) (sw := sw_End_hearHeaders) (rt := 0) (pr := pr_End_hearHeaders) (by decide) [] (fun _ _ _ _ _ _ _ _ _ _ _ => False) 110 ⟨fun _ => rfl, fun h => absurd h (by decide), fun h => absurd h (by decide), fun h => absurd h (by decide)⟩ dk_End_hearHeaders fo_End go_End_hearHeaders co_End_hearHeaders (fun a k h hk => by unfold gt_End_hearHeaders at h; split at h <;> first | exact ⟨by decide, by decide⟩ | (cases h; done) | (cases h; exact absurd hk (by decide))) (fun q hq h => absurd h (nt_End_hearHeaders q hq)) (fun av σ K kx h => by rw [sR_len h]; decide) ?_ ?_
  · intro av σ K kx hok hSp
    obtain ⟨q0, rfl, hp⟩ := sR_inv hSp
    obtain ⟨k0, e0, i0⟩ := q0
    obtain ⟨h0, hI, h2⟩ := hp
    dsimp only at h0; subst h0
    all_goals (repeat' (first | (with_reducible assumption) | (with_reducible (apply by8_9; assumption)) | (with_reducible (apply by8_4; assumption)) | (with_reducible (apply by8_22; assumption)) | (with_reducible (apply by8_g; assumption)) | (with_reducible (apply rg34_of <;> assumption)) | (with_reducible refine rg_max ?_ ?_) | (with_reducible refine IV_upd ?_ ?_) | (with_reducible refine IV_cpy ?_ (fun _ _ _ _ => trivial)) | (refine And.intro ?_ ?_) | (intro h9; first | exact absurd h9 (by decide) | contradiction | skip)))
    all_goals first | (exact h2) | (refine h2 _ ?_ ?_ <;> (repeat' (first | assumption | exact trivial | exact Un_rf | (apply by8_4; assumption) | (apply by8_9; assumption) | (apply by8_22; assumption) | (apply by8_g; assumption) | (refine by8_13 ?_) | (apply rg34_of <;> assumption) | (refine rg_max ?_ ?_) | (apply rg_34; assumption) | (refine ixr_by8 ?_ ?_) | (refine IV_upd ?_ ?_) | (refine Un_upd rfl ?_) | (refine IV_cpy ?_ (fun _ _ _ _ => trivial)) | (refine Un_cpy rfl ?_) | (apply Un_tr; rotate_left; assumption; rfl) | (refine And.intro ?_ ?_))) <;> (first | rfl | decide | exact Or.inl rfl | exact Or.inr (Or.inl rfl) | exact Or.inr (Or.inr rfl) | (simp only [nrm, strm, by8] at * <;> omega) | (simp [upd4, cpy4, nrm, strm, by8] at * <;> omega))) | (apply h2 <;> (repeat' (first | assumption | exact trivial | exact Un_rf | (apply by8_4; assumption) | (apply by8_9; assumption) | (apply by8_22; assumption) | (apply by8_g; assumption) | (refine by8_13 ?_) | (apply rg34_of <;> assumption) | (refine rg_max ?_ ?_) | (apply rg_34; assumption) | (refine ixr_by8 ?_ ?_) | (refine IV_upd ?_ ?_) | (refine Un_upd rfl ?_) | (refine IV_cpy ?_ (fun _ _ _ _ => trivial)) | (refine Un_cpy rfl ?_) | (apply Un_tr; rotate_left; assumption; rfl) | (refine And.intro ?_ ?_))) <;> (first | rfl | decide | exact Or.inl rfl | exact Or.inr (Or.inl rfl) | exact Or.inr (Or.inr rfl) | (simp only [nrm, strm, by8] at * <;> omega) | (simp [upd4, cpy4, nrm, strm, by8] at * <;> omega))) | (first | rfl | decide | exact Or.inl rfl | exact Or.inr (Or.inl rfl) | exact Or.inr (Or.inr rfl) | (simp only [nrm, strm, by8] at * <;> omega) | (simp [upd4, cpy4, nrm, strm, by8] at * <;> omega)) | ((repeat' (first | assumption | exact trivial | exact Un_rf | (apply by8_4; assumption) | (apply by8_9; assumption) | (apply by8_22; assumption) | (apply by8_g; assumption) | (refine by8_13 ?_) | (apply rg34_of <;> assumption) | (refine rg_max ?_ ?_) | (apply rg_34; assumption) | (refine ixr_by8 ?_ ?_) | (refine IV_upd ?_ ?_) | (refine Un_upd rfl ?_) | (refine IV_cpy ?_ (fun _ _ _ _ => trivial)) | (refine Un_cpy rfl ?_) | (apply Un_tr; rotate_left; assumption; rfl) | (refine And.intro ?_ ?_))) <;> (first | rfl | decide | exact Or.inl rfl | exact Or.inr (Or.inl rfl) | exact Or.inr (Or.inr rfl) | (simp only [nrm, strm, by8] at * <;> omega) | (simp [upd4, cpy4, nrm, strm, by8] at * <;> omega)))
  · intro av σ K kx n pc L st σ' nc ns _ _ h
    exact (h : False).elim
end
section
def gt_End_hearFrame (a : Nat) : Option Nat := match a with
  | _ => none
theorem go_End_hearFrame : ∀ a v, gt_End_hearFrame a = some v → StaOK R_End a v := by
  intro a v h
  unfold gt_End_hearFrame at h
  cases h
def pr_End_hearFrame : List Ent := [(0, 5, 0, 0, 0), (1, 39, 76, 0, 0), (4, 46, 188, 0, 0), (7, 27, 0, 0, 12), (10, 0, 0, 1, 0), (11, 48, 0, 0, 0), (12, 5, 0, 0, 0), (13, 39, 76, 0, 0), (16, 46, 191, 0, 0), (19, 51, 0, 0, 0), (68, 5, 0, 0, 0), (69, 46, 194, 0, 0), (72, 48, 0, 0, 0), (73, 5, 0, 0, 0), (74, 46, 197, 0, 0), (77, 48, 0, 0, 0), (78, 5, 0, 0, 0), (79, 46, 200, 0, 0), (82, 48, 0, 0, 0), (83, 5, 0, 0, 0), (84, 46, 203, 0, 0), (87, 48, 0, 0, 0), (88, 5, 0, 0, 0), (89, 46, 206, 0, 0), (92, 48, 0, 0, 0), (93, 5, 0, 0, 0), (94, 2, 0, 256, 0), (97, 5, 0, 0, 0), (98, 39, 76, 0, 0), (101, 0, 0, 0, 0), (102, 46, 209, 0, 0), (105, 14, 0, 0, 0), (106, 5, 0, 0, 0), (107, 39, 76, 0, 0), (110, 0, 0, 1, 0), (111, 46, 209, 0, 0), (114, 12, 0, 0, 0), (115, 40, 56, 0, 0), (118, 0, 0, 0, 0), (119, 48, 0, 0, 0), (120, 5, 0, 0, 0), (121, 46, 210, 0, 0), (124, 48, 0, 0, 0), (125, 0, 0, 0, 0), (126, 48, 0, 0, 0)]
def sw_End_hearFrame : List Swt := [(0, [68, 73, 125, 78, 83, 125, 88, 93, 120], 125, 49)]
theorem dk_End_hearFrame : ∀ q ∈ pr_End_hearFrame, decode b_End_hearFrame q.1 = .ok (dec sw_End_hearFrame q) ∧ okE q = true := by decide +kernel
theorem nt_End_hearFrame : ∀ q ∈ pr_End_hearFrame, ¬ q.2.1 = 55 := by decide +kernel
def ct_End_hearFrame (a : Nat) : Option (Nat × Nat × CSp × Nat × Nat) := match a with
  | 188 => some (1, 5, sp_Frame_isWellFormed, 0, 0)
  | 191 => some (1, 5, sp_Frame_type, 0, 0)
  | 194 => some (1, 3, sp_End_hearData, 0, 0)
  | 197 => some (1, 3, sp_End_hearHeaders, 0, 0)
  | 200 => some (1, 3, sp_End_hearReset, 0, 0)
  | 203 => some (1, 3, sp_End_hearSettings, 0, 0)
  | 206 => some (1, 3, sp_End_hearPing, 0, 0)
  | 209 => some (2, 5, sp_Frame_at, 0, 0)
  | 210 => some (1, 3, sp_End_hearWindow, 0, 0)
  | _ => none
theorem co_End_hearFrame : ∀ a v, ct_End_hearFrame a = some v → StcOK R_End 6 142 a v := by
  intro a v h
  unfold ct_End_hearFrame at h
  split at h
  · cases h; exact ⟨y_Frame_isWellFormed, b_Frame_isWellFormed, 3, (some .boolean), 1, 20, 0, c_Frame_isWellFormed, by decide, by decide +kernel, by decide +kernel, by decide +kernel, Or.inl ⟨rfl, by decide, by decide +kernel, by decide +kernel, _, _, rfl, by decide +kernel⟩⟩
  · cases h; exact ⟨y_Frame_type, b_Frame_type, 1, (some .int), 0, 0, 0, c_Frame_type, by decide, by decide +kernel, by decide +kernel, by decide +kernel, Or.inl ⟨rfl, by decide, by decide +kernel, by decide +kernel, _, _, rfl, by decide +kernel⟩⟩
  · cases h; exact ⟨y_End_hearData, b_End_hearData, 4, (some .int), 4, 91, 0, c_End_hearData, by decide, by decide +kernel, by decide +kernel, by decide +kernel, Or.inl ⟨rfl, by decide, by decide +kernel, by decide +kernel, _, _, rfl, by decide +kernel⟩⟩
  · cases h; exact ⟨y_End_hearHeaders, b_End_hearHeaders, 5, (some .int), 5, 118, 0, c_End_hearHeaders, by decide, by decide +kernel, by decide +kernel, by decide +kernel, Or.inl ⟨rfl, by decide, by decide +kernel, by decide +kernel, _, _, rfl, by decide +kernel⟩⟩
  · cases h; exact ⟨y_End_hearReset, b_End_hearReset, 2, (some .int), 2, 41, 0, c_End_hearReset, by decide, by decide +kernel, by decide +kernel, by decide +kernel, Or.inl ⟨rfl, by decide, by decide +kernel, by decide +kernel, _, _, rfl, by decide +kernel⟩⟩
  · cases h; exact ⟨y_End_hearSettings, b_End_hearSettings, 3, (some .int), 2, 45, 0, c_End_hearSettings, by decide, by decide +kernel, by decide +kernel, by decide +kernel, Or.inl ⟨rfl, by decide, by decide +kernel, by decide +kernel, _, _, rfl, by decide +kernel⟩⟩
  · cases h; exact ⟨y_End_hearPing, b_End_hearPing, 1, (some .int), 3, 69, 0, c_End_hearPing, by decide, by decide +kernel, by decide +kernel, by decide +kernel, Or.inl ⟨rfl, by decide, by decide +kernel, by decide +kernel, _, _, rfl, by decide +kernel⟩⟩
  · cases h; exact ⟨y_Frame_at, b_Frame_at, 2, (some .int), 0, 0, 1, c_Frame_at, by decide, by decide +kernel, by decide +kernel, by decide +kernel, Or.inl ⟨rfl, by decide, by decide +kernel, by decide +kernel, _, _, rfl, by decide +kernel⟩⟩
  · cases h; exact ⟨y_End_hearWindow, b_End_hearWindow, 3, (some .int), 2, 41, 0, c_End_hearWindow, by decide, by decide +kernel, by decide +kernel, by decide +kernel, Or.inl ⟨rfl, by decide, by decide +kernel, by decide +kernel, _, _, rfl, by decide +kernel⟩⟩
  · cases h
/-- End_hearFrame -/
def sp_End_hearFrame : CSp := sR (fun q σ K _ => q.1 = 7 ∧ IV σ ∧ ∀ r σ', by8 r → IV σ' → Un [3, 4, 7, 23, 24, 25, 26, 27, 28, 29, 30, 32, 34, 35, 36, 37] σ σ' → K (some (.inl r)) σ')
set_option maxHeartbeats 4000000 in
set_option maxRecDepth 100000 in
theorem c_End_hearFrame : Ctr y_End_hearFrame b_End_hearFrame 1 (some .int) 6 142 0 0 sp_End_hearFrame := by
  refine ctr_of (FT := ft_End) (GT := gt_End_hearFrame) (CT := ct_End_hearFrame) (sw := sw_End_hearFrame) (rt := 0) (pr := pr_End_hearFrame) (by decide) [] (fun _ _ _ _ _ _ _ _ _ _ _ => False) 60 ⟨fun _ => rfl, fun h => absurd h (by decide), fun h => absurd h (by decide), fun h => absurd h (by decide)⟩ dk_End_hearFrame fo_End go_End_hearFrame co_End_hearFrame (fun a k h hk => by unfold gt_End_hearFrame at h; cases h) (fun q hq h => absurd h (nt_End_hearFrame q hq)) (fun av σ K kx h => by rw [sR_len h]; decide) ?_ ?_
  · intro av σ K kx hok hSp
    obtain ⟨q0, rfl, hp⟩ := sR_inv hSp
    obtain ⟨k0, e0, i0⟩ := q0
    obtain ⟨h0, hI, h2⟩ := hp
    dsimp only at h0; subst h0
    all_goals (repeat' (first | (with_reducible assumption) | (with_reducible (apply by8_9; assumption)) | (with_reducible (apply by8_4; assumption)) | (with_reducible (apply by8_22; assumption)) | (with_reducible (apply by8_g; assumption)) | (with_reducible (apply rg34_of <;> assumption)) | (with_reducible refine rg_max ?_ ?_) | (with_reducible refine IV_upd ?_ ?_) | (with_reducible refine IV_cpy ?_ (fun _ _ _ _ => trivial)) | (refine And.intro ?_ ?_) | (intro h9; first | exact absurd h9 (by decide) | contradiction | skip)))
    all_goals first | (exact h2) | (refine h2 _ ?_ ?_ <;> (repeat' (first | assumption | exact trivial | exact Un_rf | (apply by8_4; assumption) | (apply by8_9; assumption) | (apply by8_22; assumption) | (apply by8_g; assumption) | (refine by8_13 ?_) | (apply rg34_of <;> assumption) | (refine rg_max ?_ ?_) | (apply rg_34; assumption) | (refine ixr_by8 ?_ ?_) | (refine IV_upd ?_ ?_) | (refine Un_upd rfl ?_) | (refine IV_cpy ?_ (fun _ _ _ _ => trivial)) | (refine Un_cpy rfl ?_) | (apply Un_tr; rotate_left; assumption; rfl) | (refine And.intro ?_ ?_))) <;> (first | rfl | decide | exact Or.inl rfl | exact Or.inr (Or.inl rfl) | exact Or.inr (Or.inr rfl) | (simp only [nrm, strm, by8] at * <;> omega) | (simp [upd4, cpy4, nrm, strm, by8] at * <;> omega))) | (apply h2 <;> (repeat' (first | assumption | exact trivial | exact Un_rf | (apply by8_4; assumption) | (apply by8_9; assumption) | (apply by8_22; assumption) | (apply by8_g; assumption) | (refine by8_13 ?_) | (apply rg34_of <;> assumption) | (refine rg_max ?_ ?_) | (apply rg_34; assumption) | (refine ixr_by8 ?_ ?_) | (refine IV_upd ?_ ?_) | (refine Un_upd rfl ?_) | (refine IV_cpy ?_ (fun _ _ _ _ => trivial)) | (refine Un_cpy rfl ?_) | (apply Un_tr; rotate_left; assumption; rfl) | (refine And.intro ?_ ?_))) <;> (first | rfl | decide | exact Or.inl rfl | exact Or.inr (Or.inl rfl) | exact Or.inr (Or.inr rfl) | (simp only [nrm, strm, by8] at * <;> omega) | (simp [upd4, cpy4, nrm, strm, by8] at * <;> omega))) | (first | rfl | decide | exact Or.inl rfl | exact Or.inr (Or.inl rfl) | exact Or.inr (Or.inr rfl) | (simp only [nrm, strm, by8] at * <;> omega) | (simp [upd4, cpy4, nrm, strm, by8] at * <;> omega)) | ((repeat' (first | assumption | exact trivial | exact Un_rf | (apply by8_4; assumption) | (apply by8_9; assumption) | (apply by8_22; assumption) | (apply by8_g; assumption) | (refine by8_13 ?_) | (apply rg34_of <;> assumption) | (refine rg_max ?_ ?_) | (apply rg_34; assumption) | (refine ixr_by8 ?_ ?_) | (refine IV_upd ?_ ?_) | (refine Un_upd rfl ?_) | (refine IV_cpy ?_ (fun _ _ _ _ => trivial)) | (refine Un_cpy rfl ?_) | (apply Un_tr; rotate_left; assumption; rfl) | (refine And.intro ?_ ?_))) <;> (first | rfl | decide | exact Or.inl rfl | exact Or.inr (Or.inl rfl) | exact Or.inr (Or.inr rfl) | (simp only [nrm, strm, by8] at * <;> omega) | (simp [upd4, cpy4, nrm, strm, by8] at * <;> omega)))
  · intro av σ K kx n pc L st σ' nc ns _ _ h
    exact (h : False).elim
end
section
def gt_FrameStreams_come (a : Nat) : Option Nat := match a with
  | 124 => some 301
  | _ => none
theorem go_FrameStreams_come : ∀ a v, gt_FrameStreams_come a = some v → StaOK R_FrameStreams a v := by
  intro a v h
  unfold gt_FrameStreams_come at h
  split at h
  · cases h; exact ⟨fun _ => by decide +kernel, fun h => absurd h (by decide), fun h => absurd h (by decide), fun h => absurd h (by decide)⟩
  · cases h
def pr_FrameStreams_come : List Ent := [(0, 3, 1, 0, 0), (1, 0, 0, 0, 0), (2, 0, 0, 1, 0), (3, 47, 25, 0, 0), (6, 3, 2, 0, 0), (7, 0, 0, 1, 0), (8, 1, 0, 60, 0), (10, 47, 25, 0, 0), (13, 5, 0, 0, 0), (14, 39, 15, 0, 0), (17, 3, 1, 0, 0), (18, 43, 0, 0, 0), (19, 9, 3, 0, 0), (20, 5, 3, 0, 0), (21, 46, 43, 0, 0), (24, 47, 35, 0, 0), (27, 3, 2, 0, 0), (28, 5, 3, 0, 0), (29, 46, 119, 0, 0), (32, 46, 123, 0, 0), (35, 52, 124, 0, 0), (38, 8, 4, 0, 0), (40, 4, 4, 0, 0), (42, 31, 0, 0, 49), (45, 0, 0, 1, 0), (46, 38, 0, 0, 50), (49, 0, 0, 0, 0), (50, 47, 129, 0, 0), (53, 0, 0, 0, 0), (54, 8, 5, 0, 0), (56, 0, 0, 0, 0), (57, 8, 6, 0, 0), (59, 4, 6, 0, 0), (61, 4, 4, 0, 0), (63, 35, 0, 0, 109), (66, 5, 3, 0, 0), (67, 46, 132, 0, 0), (70, 5, 3, 0, 0), (71, 46, 135, 0, 0), (74, 26, 0, 0, 88), (77, 5, 3, 0, 0), (78, 5, 3, 0, 0), (79, 46, 138, 0, 0), (82, 46, 141, 0, 0), (85, 11, 5, 1, 0), (88, 5, 3, 0, 0), (89, 46, 43, 0, 0), (92, 27, 0, 0, 103), (95, 55, 144, 146, 3), (103, 11, 6, 1, 0), (106, 38, 0, 0, 59), (109, 4, 5, 0, 0), (111, 48, 0, 0, 0)]
def sw_FrameStreams_come : List Swt := []
theorem dk_FrameStreams_come : ∀ q ∈ pr_FrameStreams_come, decode b_FrameStreams_come q.1 = .ok (dec sw_FrameStreams_come q) ∧ okE q = true := by decide +kernel
theorem th_FrameStreams_come : ∀ q ∈ pr_FrameStreams_come, q.2.1 = 55 → ThrOK R_FrameStreams b_FrameStreams_come q ∧ 6 ≤ 8 ∧ 89 ≤ 162 := by
  intro q hq h
  have hm : q = (95, 55, 144, 146, 3) := by
    have h2 : ∀ q ∈ pr_FrameStreams_come, q.2.1 = 55 → q = (95, 55, 144, 146, 3) := by decide +kernel
    exact h2 q hq h
  subst hm
  exact ⟨⟨["java/lang/RuntimeException", "java/lang/Exception"], by decide +kernel, by decide +kernel, by decide +kernel, by decide +kernel, by decide +kernel, by decide, by decide +kernel, by decide +kernel, by decide +kernel⟩, by decide, by decide⟩
def ct_FrameStreams_come (a : Nat) : Option (Nat × Nat × CSp × Nat × Nat) := match a with
  | 25 => some (3, 1000, sp_FrameStreams_requireWithin, 1, 6)
  | 35 => some (1, 1000, sp_FrameStreams_requireState, 1, 6)
  | 43 => some (1, 3, sp_End_isUp, 0, 0)
  | 119 => some (1, 3, sp_End_coming, 0, 0)
  | 123 => some (1, 8, sp_Wire_count, 0, 0)
  | 129 => some (1, 1000, sp_FrameStreams_requireThere, 1, 6)
  | 132 => some (1, 3, sp_End_takeByte, 0, 0)
  | 135 => some (1, 3, sp_End_hasWholeFrame, 0, 0)
  | 138 => some (1, 3, sp_End_hearFrame, 0, 0)
  | 141 => some (2, 3, sp_End_endFrame, 0, 0)
  | _ => none
theorem co_FrameStreams_come : ∀ a v, ct_FrameStreams_come a = some v → StcOK R_FrameStreams 8 162 a v := by
  intro a v h
  unfold ct_FrameStreams_come at h
  split at h
  · cases h; exact ⟨y_FrameStreams_requireWithin, b_FrameStreams_requireWithin, 3, none, 7, 109, 3, c_FrameStreams_requireWithin, by decide, by decide +kernel, by decide +kernel, by decide +kernel, (by first | exact Or.inr (Or.inl ⟨rfl, rfl, by decide +kernel, by decide +kernel⟩) | exact Or.inr (Or.inr ⟨rfl, rfl, ⟨"FrameStreams", by decide +kernel⟩, by decide +kernel⟩))⟩
  · cases h; exact ⟨y_FrameStreams_requireState, b_FrameStreams_requireState, 1, none, 6, 89, 1, c_FrameStreams_requireState, by decide, by decide +kernel, by decide +kernel, by decide +kernel, (by first | exact Or.inr (Or.inl ⟨rfl, rfl, by decide +kernel, by decide +kernel⟩) | exact Or.inr (Or.inr ⟨rfl, rfl, ⟨"FrameStreams", by decide +kernel⟩, by decide +kernel⟩))⟩
  · cases h; exact ⟨y_End_isUp, b_End_isUp, 1, (some .boolean), 0, 0, 0, c_End_isUp, by decide, by decide +kernel, by decide +kernel, by decide +kernel, Or.inl ⟨rfl, by decide, by decide +kernel, by decide +kernel, _, _, rfl, by decide +kernel⟩⟩
  · cases h; exact ⟨y_End_coming, b_End_coming, 1, (some (.object "FrameStreams$Wire")), 0, 0, 0, c_End_coming, by decide, by decide +kernel, by decide +kernel, by decide +kernel, Or.inl ⟨rfl, by decide, by decide +kernel, by decide +kernel, _, _, rfl, by decide +kernel⟩⟩
  · cases h; exact ⟨y_Wire_count, b_Wire_count, 1, (some .int), 0, 0, 0, c_Wire_count, by decide, by decide +kernel, by decide +kernel, by decide +kernel, Or.inl ⟨rfl, by decide, by decide +kernel, by decide +kernel, _, _, rfl, by decide +kernel⟩⟩
  · cases h; exact ⟨y_FrameStreams_requireThere, b_FrameStreams_requireThere, 1, none, 6, 89, 1, c_FrameStreams_requireThere, by decide, by decide +kernel, by decide +kernel, by decide +kernel, (by first | exact Or.inr (Or.inl ⟨rfl, rfl, by decide +kernel, by decide +kernel⟩) | exact Or.inr (Or.inr ⟨rfl, rfl, ⟨"FrameStreams", by decide +kernel⟩, by decide +kernel⟩))⟩
  · cases h; exact ⟨y_End_takeByte, b_End_takeByte, 1, none, 4, 89, 0, c_End_takeByte, by decide, by decide +kernel, by decide +kernel, by decide +kernel, Or.inl ⟨rfl, by decide, by decide +kernel, by decide +kernel, _, _, rfl, by decide +kernel⟩⟩
  · cases h; exact ⟨y_End_hasWholeFrame, b_End_hasWholeFrame, 1, (some .boolean), 2, 40, 0, c_End_hasWholeFrame, by decide, by decide +kernel, by decide +kernel, by decide +kernel, Or.inl ⟨rfl, by decide, by decide +kernel, by decide +kernel, _, _, rfl, by decide +kernel⟩⟩
  · cases h; exact ⟨y_End_hearFrame, b_End_hearFrame, 1, (some .int), 6, 142, 0, c_End_hearFrame, by decide, by decide +kernel, by decide +kernel, by decide +kernel, Or.inl ⟨rfl, by decide, by decide +kernel, by decide +kernel, _, _, rfl, by decide +kernel⟩⟩
  · cases h; exact ⟨y_End_endFrame, b_End_endFrame, 2, none, 4, 89, 1, c_End_endFrame, by decide, by decide +kernel, by decide +kernel, by decide +kernel, Or.inl ⟨rfl, by decide, by decide +kernel, by decide +kernel, _, _, rfl, by decide +kernel⟩⟩
  · cases h
/-- FrameStreams_come -/
def sp_FrameStreams_come : CSp := sRII (fun q x0 x1 σ K kx => q.1 = 0 ∧ (rI x0 ∧ rI x1) ∧ IV σ ∧ pubK σ K ∧ pubX σ kx)
set_option maxHeartbeats 4000000 in
set_option maxRecDepth 100000 in
theorem c_FrameStreams_come : Ctr y_FrameStreams_come b_FrameStreams_come 7 (some .int) 8 162 5 30 sp_FrameStreams_come := by
  refine ctr_of (FT := ft_FrameStreams) (GT := gt_FrameStreams_come) (CT := ct_FrameStreams_come) (sw := sw_FrameStreams_come) (rt := 0) (pr := pr_FrameStreams_come) (by decide) [59] (fun av σ _ _ n pc L st σ' nc ns => ∃ e i x y s c w j, av = [.inr (0, e, i), .inl x, .inl y] ∧ pc = 59 ∧ L = [some (.inr (0, e, i)), some (.inl x), some (.inl y), some (.inr (7, s, 0)), some (.inl c), some (.inl w), some (.inl j)] ∧ st = [] ∧ nc = 4 ∧ ns = 24 ∧ nrm c ≤ 60 ∧ 0 ≤ j ∧ j ≤ 60 ∧ n = (60 - j).toNat ∧ IV σ' ∧ Un UA σ σ') 70 ⟨fun _ => rfl, fun h => absurd h (by decide), fun h => absurd h (by decide), fun h => absurd h (by decide)⟩ dk_FrameStreams_come fo_FrameStreams go_FrameStreams_come co_FrameStreams_come (fun a k h hk => by unfold gt_FrameStreams_come at h; split at h <;> first | exact ⟨by decide, by decide⟩ | (cases h; done) | (cases h; exact absurd hk (by decide))) th_FrameStreams_come (fun av σ K kx h => by rw [sRII_len h]; decide) ?_ ?_
  · intro av σ K kx hok hSp
    obtain ⟨q0, x0, x1, rfl, hp⟩ := sRII_inv hSp
    obtain ⟨k0, e0, i0⟩ := q0
    obtain ⟨h0, hr, hI, hpk, hpx⟩ := hp
    dsimp only at h0; subst h0
    simp only [rI] at hr
    all_goals (repeat' (first | (with_reducible assumption) | (with_reducible (apply by8_9; assumption)) | (with_reducible (apply by8_4; assumption)) | (with_reducible (apply by8_22; assumption)) | (with_reducible (apply by8_g; assumption)) | (with_reducible (apply rg34_of <;> assumption)) | (with_reducible refine rg_max ?_ ?_) | (with_reducible refine IV_upd ?_ ?_) | (with_reducible refine IV_cpy ?_ (fun _ _ _ _ => trivial)) | (refine And.intro ?_ ?_) | (intro h9; first | exact absurd h9 (by decide) | contradiction | skip)))
    all_goals first | (refine pk hpk ?_ ?_ <;> (repeat' (first | assumption | exact trivial | exact Un_rf | (apply by8_4; assumption) | (apply by8_9; assumption) | (apply by8_22; assumption) | (apply by8_g; assumption) | (refine by8_13 ?_) | (apply rg34_of <;> assumption) | (refine rg_max ?_ ?_) | (apply rg_34; assumption) | (refine ixr_by8 ?_ ?_) | (refine IV_upd ?_ ?_) | (refine Un_upd rfl ?_) | (refine IV_cpy ?_ (fun _ _ _ _ => trivial)) | (refine Un_cpy rfl ?_) | (apply Un_tr; rotate_left; assumption; rfl) | (refine And.intro ?_ ?_))) <;> (first | rfl | decide | exact Or.inl rfl | exact Or.inr (Or.inl rfl) | exact Or.inr (Or.inr rfl) | (simp only [nrm, strm, by8] at * <;> omega) | (simp [upd4, cpy4, nrm, strm, by8] at * <;> omega))) | (refine px1 hpx ?_ ?_ <;> (repeat' (first | assumption | exact trivial | exact Un_rf | (apply by8_4; assumption) | (apply by8_9; assumption) | (apply by8_22; assumption) | (apply by8_g; assumption) | (refine by8_13 ?_) | (apply rg34_of <;> assumption) | (refine rg_max ?_ ?_) | (apply rg_34; assumption) | (refine ixr_by8 ?_ ?_) | (refine IV_upd ?_ ?_) | (refine Un_upd rfl ?_) | (refine IV_cpy ?_ (fun _ _ _ _ => trivial)) | (refine Un_cpy rfl ?_) | (apply Un_tr; rotate_left; assumption; rfl) | (refine And.intro ?_ ?_))) <;> (first | rfl | decide | exact Or.inl rfl | exact Or.inr (Or.inl rfl) | exact Or.inr (Or.inr rfl) | (simp only [nrm, strm, by8] at * <;> omega) | (simp [upd4, cpy4, nrm, strm, by8] at * <;> omega))) | (refine px2 hpx ?_ ?_ <;> (repeat' (first | assumption | exact trivial | exact Un_rf | (apply by8_4; assumption) | (apply by8_9; assumption) | (apply by8_22; assumption) | (apply by8_g; assumption) | (refine by8_13 ?_) | (apply rg34_of <;> assumption) | (refine rg_max ?_ ?_) | (apply rg_34; assumption) | (refine ixr_by8 ?_ ?_) | (refine IV_upd ?_ ?_) | (refine Un_upd rfl ?_) | (refine IV_cpy ?_ (fun _ _ _ _ => trivial)) | (refine Un_cpy rfl ?_) | (apply Un_tr; rotate_left; assumption; rfl) | (refine And.intro ?_ ?_))) <;> (first | rfl | decide | exact Or.inl rfl | exact Or.inr (Or.inl rfl) | exact Or.inr (Or.inr rfl) | (simp only [nrm, strm, by8] at * <;> omega) | (simp [upd4, cpy4, nrm, strm, by8] at * <;> omega))) | (refine px3 hpx ?_ ?_ <;> (repeat' (first | assumption | exact trivial | exact Un_rf | (apply by8_4; assumption) | (apply by8_9; assumption) | (apply by8_22; assumption) | (apply by8_g; assumption) | (refine by8_13 ?_) | (apply rg34_of <;> assumption) | (refine rg_max ?_ ?_) | (apply rg_34; assumption) | (refine ixr_by8 ?_ ?_) | (refine IV_upd ?_ ?_) | (refine Un_upd rfl ?_) | (refine IV_cpy ?_ (fun _ _ _ _ => trivial)) | (refine Un_cpy rfl ?_) | (apply Un_tr; rotate_left; assumption; rfl) | (refine And.intro ?_ ?_))) <;> (first | rfl | decide | exact Or.inl rfl | exact Or.inr (Or.inl rfl) | exact Or.inr (Or.inr rfl) | (simp only [nrm, strm, by8] at * <;> omega) | (simp [upd4, cpy4, nrm, strm, by8] at * <;> omega))) | (refine px4 hpx ?_ ?_ <;> (repeat' (first | assumption | exact trivial | exact Un_rf | (apply by8_4; assumption) | (apply by8_9; assumption) | (apply by8_22; assumption) | (apply by8_g; assumption) | (refine by8_13 ?_) | (apply rg34_of <;> assumption) | (refine rg_max ?_ ?_) | (apply rg_34; assumption) | (refine ixr_by8 ?_ ?_) | (refine IV_upd ?_ ?_) | (refine Un_upd rfl ?_) | (refine IV_cpy ?_ (fun _ _ _ _ => trivial)) | (refine Un_cpy rfl ?_) | (apply Un_tr; rotate_left; assumption; rfl) | (refine And.intro ?_ ?_))) <;> (first | rfl | decide | exact Or.inl rfl | exact Or.inr (Or.inl rfl) | exact Or.inr (Or.inr rfl) | (simp only [nrm, strm, by8] at * <;> omega) | (simp [upd4, cpy4, nrm, strm, by8] at * <;> omega))) | (refine ⟨60, e0, i0, x0, x1, _, _, _, 0, rfl, rfl, rfl, rfl, rfl, rfl, ?_, ?_, ?_, rfl, ?_, ?_⟩ <;> (repeat' (first | assumption | exact trivial | exact Un_rf | (apply by8_4; assumption) | (apply by8_9; assumption) | (apply by8_22; assumption) | (apply by8_g; assumption) | (refine by8_13 ?_) | (apply rg34_of <;> assumption) | (refine rg_max ?_ ?_) | (apply rg_34; assumption) | (refine ixr_by8 ?_ ?_) | (refine IV_upd ?_ ?_) | (refine Un_upd rfl ?_) | (refine IV_cpy ?_ (fun _ _ _ _ => trivial)) | (refine Un_cpy rfl ?_) | (apply Un_tr; rotate_left; assumption; rfl) | (refine And.intro ?_ ?_))) <;> (first | (first | rfl | decide | exact Or.inl rfl | exact Or.inr (Or.inl rfl) | exact Or.inr (Or.inr rfl) | (simp only [nrm, strm, by8] at * <;> omega) | (simp [upd4, cpy4, nrm, strm, by8] at * <;> omega)) | (split <;> (first | rfl | decide | exact Or.inl rfl | exact Or.inr (Or.inl rfl) | exact Or.inr (Or.inr rfl) | (simp only [nrm, strm, by8] at * <;> omega) | (simp [upd4, cpy4, nrm, strm, by8] at * <;> omega))))) | (first | rfl | decide | exact Or.inl rfl | exact Or.inr (Or.inl rfl) | exact Or.inr (Or.inr rfl) | (simp only [nrm, strm, by8] at * <;> omega) | (simp [upd4, cpy4, nrm, strm, by8] at * <;> omega)) | ((repeat' (first | assumption | exact trivial | exact Un_rf | (apply by8_4; assumption) | (apply by8_9; assumption) | (apply by8_22; assumption) | (apply by8_g; assumption) | (refine by8_13 ?_) | (apply rg34_of <;> assumption) | (refine rg_max ?_ ?_) | (apply rg_34; assumption) | (refine ixr_by8 ?_ ?_) | (refine IV_upd ?_ ?_) | (refine Un_upd rfl ?_) | (refine IV_cpy ?_ (fun _ _ _ _ => trivial)) | (refine Un_cpy rfl ?_) | (apply Un_tr; rotate_left; assumption; rfl) | (refine And.intro ?_ ?_))) <;> (first | rfl | decide | exact Or.inl rfl | exact Or.inr (Or.inl rfl) | exact Or.inr (Or.inr rfl) | (simp only [nrm, strm, by8] at * <;> omega) | (simp [upd4, cpy4, nrm, strm, by8] at * <;> omega)))
  · intro av σ K kx n pc L st σ' nc ns hok hSp hJ
    obtain ⟨e, i, x, y, s, c, w, j, rfl, rfl, rfl, rfl, rfl, rfl, c0, c1, c2, hn, hI, hU⟩ := hJ
    obtain ⟨-, hr, -, hpk, hpx⟩ : (0 : Nat) = 0 ∧ (rI x ∧ rI y) ∧ IV σ ∧ pubK σ K ∧ pubX σ kx := hSp
    simp only [rI] at hr
    all_goals (repeat' (first | (with_reducible assumption) | (with_reducible (apply by8_9; assumption)) | (with_reducible (apply by8_4; assumption)) | (with_reducible (apply by8_22; assumption)) | (with_reducible (apply by8_g; assumption)) | (with_reducible (apply rg34_of <;> assumption)) | (with_reducible refine rg_max ?_ ?_) | (with_reducible refine IV_upd ?_ ?_) | (with_reducible refine IV_cpy ?_ (fun _ _ _ _ => trivial)) | (refine And.intro ?_ ?_) | (intro h9; first | exact absurd h9 (by decide) | contradiction | skip)))
    all_goals first | (refine pk hpk ?_ ?_ <;> (repeat' (first | assumption | exact trivial | exact Un_rf | (apply by8_4; assumption) | (apply by8_9; assumption) | (apply by8_22; assumption) | (apply by8_g; assumption) | (refine by8_13 ?_) | (apply rg34_of <;> assumption) | (refine rg_max ?_ ?_) | (apply rg_34; assumption) | (refine ixr_by8 ?_ ?_) | (refine IV_upd ?_ ?_) | (refine Un_upd rfl ?_) | (refine IV_cpy ?_ (fun _ _ _ _ => trivial)) | (refine Un_cpy rfl ?_) | (apply Un_tr; rotate_left; assumption; rfl) | (refine And.intro ?_ ?_))) <;> (first | rfl | decide | exact Or.inl rfl | exact Or.inr (Or.inl rfl) | exact Or.inr (Or.inr rfl) | (simp only [nrm, strm, by8] at * <;> omega) | (simp [upd4, cpy4, nrm, strm, by8] at * <;> omega))) | (refine px1 hpx ?_ ?_ <;> (repeat' (first | assumption | exact trivial | exact Un_rf | (apply by8_4; assumption) | (apply by8_9; assumption) | (apply by8_22; assumption) | (apply by8_g; assumption) | (refine by8_13 ?_) | (apply rg34_of <;> assumption) | (refine rg_max ?_ ?_) | (apply rg_34; assumption) | (refine ixr_by8 ?_ ?_) | (refine IV_upd ?_ ?_) | (refine Un_upd rfl ?_) | (refine IV_cpy ?_ (fun _ _ _ _ => trivial)) | (refine Un_cpy rfl ?_) | (apply Un_tr; rotate_left; assumption; rfl) | (refine And.intro ?_ ?_))) <;> (first | rfl | decide | exact Or.inl rfl | exact Or.inr (Or.inl rfl) | exact Or.inr (Or.inr rfl) | (simp only [nrm, strm, by8] at * <;> omega) | (simp [upd4, cpy4, nrm, strm, by8] at * <;> omega))) | (refine px2 hpx ?_ ?_ <;> (repeat' (first | assumption | exact trivial | exact Un_rf | (apply by8_4; assumption) | (apply by8_9; assumption) | (apply by8_22; assumption) | (apply by8_g; assumption) | (refine by8_13 ?_) | (apply rg34_of <;> assumption) | (refine rg_max ?_ ?_) | (apply rg_34; assumption) | (refine ixr_by8 ?_ ?_) | (refine IV_upd ?_ ?_) | (refine Un_upd rfl ?_) | (refine IV_cpy ?_ (fun _ _ _ _ => trivial)) | (refine Un_cpy rfl ?_) | (apply Un_tr; rotate_left; assumption; rfl) | (refine And.intro ?_ ?_))) <;> (first | rfl | decide | exact Or.inl rfl | exact Or.inr (Or.inl rfl) | exact Or.inr (Or.inr rfl) | (simp only [nrm, strm, by8] at * <;> omega) | (simp [upd4, cpy4, nrm, strm, by8] at * <;> omega))) | (refine px3 hpx ?_ ?_ <;> (repeat' (first | assumption | exact trivial | exact Un_rf | (apply by8_4; assumption) | (apply by8_9; assumption) | (apply by8_22; assumption) | (apply by8_g; assumption) | (refine by8_13 ?_) | (apply rg34_of <;> assumption) | (refine rg_max ?_ ?_) | (apply rg_34; assumption) | (refine ixr_by8 ?_ ?_) | (refine IV_upd ?_ ?_) | (refine Un_upd rfl ?_) | (refine IV_cpy ?_ (fun _ _ _ _ => trivial)) | (refine Un_cpy rfl ?_) | (apply Un_tr; rotate_left; assumption; rfl) | (refine And.intro ?_ ?_))) <;> (first | rfl | decide | exact Or.inl rfl | exact Or.inr (Or.inl rfl) | exact Or.inr (Or.inr rfl) | (simp only [nrm, strm, by8] at * <;> omega) | (simp [upd4, cpy4, nrm, strm, by8] at * <;> omega))) | (refine px4 hpx ?_ ?_ <;> (repeat' (first | assumption | exact trivial | exact Un_rf | (apply by8_4; assumption) | (apply by8_9; assumption) | (apply by8_22; assumption) | (apply by8_g; assumption) | (refine by8_13 ?_) | (apply rg34_of <;> assumption) | (refine rg_max ?_ ?_) | (apply rg_34; assumption) | (refine ixr_by8 ?_ ?_) | (refine IV_upd ?_ ?_) | (refine Un_upd rfl ?_) | (refine IV_cpy ?_ (fun _ _ _ _ => trivial)) | (refine Un_cpy rfl ?_) | (apply Un_tr; rotate_left; assumption; rfl) | (refine And.intro ?_ ?_))) <;> (first | rfl | decide | exact Or.inl rfl | exact Or.inr (Or.inl rfl) | exact Or.inr (Or.inr rfl) | (simp only [nrm, strm, by8] at * <;> omega) | (simp [upd4, cpy4, nrm, strm, by8] at * <;> omega))) | (refine ⟨(60 - (j + 1)).toNat, ?_, e, i, x, y, s, c, _, j + 1, rfl, rfl, rfl, rfl, rfl, rfl, c0, ?_, ?_, rfl, ?_, ?_⟩ <;> (repeat' (first | assumption | exact trivial | exact Un_rf | (apply by8_4; assumption) | (apply by8_9; assumption) | (apply by8_22; assumption) | (apply by8_g; assumption) | (refine by8_13 ?_) | (apply rg34_of <;> assumption) | (refine rg_max ?_ ?_) | (apply rg_34; assumption) | (refine ixr_by8 ?_ ?_) | (refine IV_upd ?_ ?_) | (refine Un_upd rfl ?_) | (refine IV_cpy ?_ (fun _ _ _ _ => trivial)) | (refine Un_cpy rfl ?_) | (apply Un_tr; rotate_left; assumption; rfl) | (refine And.intro ?_ ?_))) <;> (first | rfl | decide | exact Or.inl rfl | exact Or.inr (Or.inl rfl) | exact Or.inr (Or.inr rfl) | (simp only [nrm, strm, by8] at * <;> omega) | (simp [upd4, cpy4, nrm, strm, by8] at * <;> omega))) | (first | rfl | decide | exact Or.inl rfl | exact Or.inr (Or.inl rfl) | exact Or.inr (Or.inr rfl) | (simp only [nrm, strm, by8] at * <;> omega) | (simp [upd4, cpy4, nrm, strm, by8] at * <;> omega)) | ((repeat' (first | assumption | exact trivial | exact Un_rf | (apply by8_4; assumption) | (apply by8_9; assumption) | (apply by8_22; assumption) | (apply by8_g; assumption) | (refine by8_13 ?_) | (apply rg34_of <;> assumption) | (refine rg_max ?_ ?_) | (apply rg_34; assumption) | (refine ixr_by8 ?_ ?_) | (refine IV_upd ?_ ?_) | (refine Un_upd rfl ?_) | (refine IV_cpy ?_ (fun _ _ _ _ => trivial)) | (refine Un_cpy rfl ?_) | (apply Un_tr; rotate_left; assumption; rfl) | (refine And.intro ?_ ?_))) <;> (first | rfl | decide | exact Or.inl rfl | exact Or.inr (Or.inl rfl) | exact Or.inr (Or.inr rfl) | (simp only [nrm, strm, by8] at * <;> omega) | (simp [upd4, cpy4, nrm, strm, by8] at * <;> omega)))
end
